section
-- ===== PART A: goes FIRST, ahead of the names: the tables' words, and 'selects' of the private methods out of them =====
/-- a private method of a class that the tables say can be made, by its rows of tables_1 -/
def lw_okq (q : MethodName × Nat) : Prop := (q.1.cls ≠ "java/lang/invoke/MethodHandle" ∧ q.1.cls ≠ "java/lang/invoke/VarHandle") ∧ Cond.instantiable q.1.cls q.2 ∈ tables_1 ∧ Cond.privateMethod q.1 ∈ tables_1 ∧ Cond.instanceMethod q.1 ∈ tables_1
theorem lw_p0 : lw_okq (⟨"PictureRows", "firstWrongPlace", "()I"⟩, 6) := ⟨⟨by decide +kernel, by decide +kernel⟩, List.mem_of_getElem? (i := 21) (by decide +kernel), List.mem_of_getElem? (i := 107) (by decide +kernel), List.mem_of_getElem? (i := 108) (by decide +kernel)⟩
theorem lw_p1 : lw_okq (⟨"PictureRows$Runs", "add", "(III)V"⟩, 6) := ⟨⟨by decide +kernel, by decide +kernel⟩, List.mem_of_getElem? (i := 45) (by decide +kernel), List.mem_of_getElem? (i := 225) (by decide +kernel), List.mem_of_getElem? (i := 226) (by decide +kernel)⟩
theorem lw_p2 : lw_okq (⟨"PictureRows$Runs", "countOf", "(I)I"⟩, 6) := ⟨⟨by decide +kernel, by decide +kernel⟩, List.mem_of_getElem? (i := 45) (by decide +kernel), List.mem_of_getElem? (i := 233) (by decide +kernel), List.mem_of_getElem? (i := 234) (by decide +kernel)⟩
theorem lw_p3 : lw_okq (⟨"PictureRows$Runs", "standsAhead", "(II)Z"⟩, 6) := ⟨⟨by decide +kernel, by decide +kernel⟩, List.mem_of_getElem? (i := 45) (by decide +kernel), List.mem_of_getElem? (i := 250) (by decide +kernel), List.mem_of_getElem? (i := 251) (by decide +kernel)⟩
theorem lw_p4 : lw_okq (⟨"PictureRows$Runs", "hasRivalAhead", "(I)Z"⟩, 6) := ⟨⟨by decide +kernel, by decide +kernel⟩, List.mem_of_getElem? (i := 45) (by decide +kernel), List.mem_of_getElem? (i := 264) (by decide +kernel), List.mem_of_getElem? (i := 265) (by decide +kernel)⟩
theorem lw_p5 : lw_okq (⟨"PictureRows", "keep", "(LPictureRows$Picture;)V"⟩, 6) := ⟨⟨by decide +kernel, by decide +kernel⟩, List.mem_of_getElem? (i := 21) (by decide +kernel), List.mem_of_getElem? (i := 382) (by decide +kernel), List.mem_of_getElem? (i := 383) (by decide +kernel)⟩
theorem lw_p6 : lw_okq (⟨"PictureRows$Picture", "letterOf", "(II)I"⟩, 10) := ⟨⟨by decide +kernel, by decide +kernel⟩, List.mem_of_getElem? (i := 280) (by decide +kernel), List.mem_of_getElem? (i := 421) (by decide +kernel), List.mem_of_getElem? (i := 422) (by decide +kernel)⟩
theorem lw_p7 : lw_okq (⟨"PictureRows$Effect", "signOf", "(I)I"⟩, 3) := ⟨⟨by decide +kernel, by decide +kernel⟩, List.mem_of_getElem? (i := 323) (by decide +kernel), List.mem_of_getElem? (i := 433) (by decide +kernel), List.mem_of_getElem? (i := 434) (by decide +kernel)⟩
theorem lw_p8 : lw_okq (⟨"PictureRows$Effect", "timesOf", "(I)I"⟩, 3) := ⟨⟨by decide +kernel, by decide +kernel⟩, List.mem_of_getElem? (i := 323) (by decide +kernel), List.mem_of_getElem? (i := 437) (by decide +kernel), List.mem_of_getElem? (i := 438) (by decide +kernel)⟩
theorem lw_p9 : lw_okq (⟨"PictureRows$Picture", "countOf", "(I)I"⟩, 10) := ⟨⟨by decide +kernel, by decide +kernel⟩, List.mem_of_getElem? (i := 280) (by decide +kernel), List.mem_of_getElem? (i := 449) (by decide +kernel), List.mem_of_getElem? (i := 450) (by decide +kernel)⟩
theorem lw_p10 : lw_okq (⟨"PictureRows$Picture", "countOfKind", "(I)I"⟩, 10) := ⟨⟨by decide +kernel, by decide +kernel⟩, List.mem_of_getElem? (i := 280) (by decide +kernel), List.mem_of_getElem? (i := 453) (by decide +kernel), List.mem_of_getElem? (i := 454) (by decide +kernel)⟩
theorem lw_p11 : lw_okq (⟨"java/lang/Throwable", "fillInStackTrace", "(I)Ljava/lang/Throwable;"⟩, 6) := ⟨⟨by decide +kernel, by decide +kernel⟩, List.mem_of_getElem? (i := 504) (by decide +kernel), List.mem_of_getElem? (i := 502) (by decide +kernel), List.mem_of_getElem? (i := 503) (by decide +kernel)⟩
theorem lw_p12 : lw_okq (⟨"PictureRowsModel", "scan", "()I"⟩, 24) := ⟨⟨by decide +kernel, by decide +kernel⟩, List.mem_of_getElem? (i := 538) (by decide +kernel), List.mem_of_getElem? (i := 642) (by decide +kernel), List.mem_of_getElem? (i := 643) (by decide +kernel)⟩
theorem lw_p13 : lw_okq (⟨"PictureRowsModel", "signAt", "(I)I"⟩, 24) := ⟨⟨by decide +kernel, by decide +kernel⟩, List.mem_of_getElem? (i := 538) (by decide +kernel), List.mem_of_getElem? (i := 646) (by decide +kernel), List.mem_of_getElem? (i := 647) (by decide +kernel)⟩
theorem lw_p14 : lw_okq (⟨"PictureRowsModel", "at0", "(I)I"⟩, 24) := ⟨⟨by decide +kernel, by decide +kernel⟩, List.mem_of_getElem? (i := 538) (by decide +kernel), List.mem_of_getElem? (i := 650) (by decide +kernel), List.mem_of_getElem? (i := 651) (by decide +kernel)⟩
theorem lw_p15 : lw_okq (⟨"PictureRowsModel", "behindCount", "(I)I"⟩, 24) := ⟨⟨by decide +kernel, by decide +kernel⟩, List.mem_of_getElem? (i := 538) (by decide +kernel), List.mem_of_getElem? (i := 657) (by decide +kernel), List.mem_of_getElem? (i := 658) (by decide +kernel)⟩
def lw_privs_1 : List (MethodName × Nat) := [(⟨"PictureRows", "firstWrongPlace", "()I"⟩, 6), (⟨"PictureRows$Runs", "add", "(III)V"⟩, 6), (⟨"PictureRows$Runs", "countOf", "(I)I"⟩, 6), (⟨"PictureRows$Runs", "standsAhead", "(II)Z"⟩, 6), (⟨"PictureRows$Runs", "hasRivalAhead", "(I)Z"⟩, 6), (⟨"PictureRows", "keep", "(LPictureRows$Picture;)V"⟩, 6), (⟨"PictureRows$Picture", "letterOf", "(II)I"⟩, 10), (⟨"PictureRows$Effect", "signOf", "(I)I"⟩, 3), (⟨"PictureRows$Effect", "timesOf", "(I)I"⟩, 3), (⟨"PictureRows$Picture", "countOf", "(I)I"⟩, 10), (⟨"PictureRows$Picture", "countOfKind", "(I)I"⟩, 10), (⟨"java/lang/Throwable", "fillInStackTrace", "(I)Ljava/lang/Throwable;"⟩, 6), (⟨"PictureRowsModel", "scan", "()I"⟩, 24), (⟨"PictureRowsModel", "signAt", "(I)I"⟩, 24), (⟨"PictureRowsModel", "at0", "(I)I"⟩, 24), (⟨"PictureRowsModel", "behindCount", "(I)I"⟩, 24)]
theorem lw_r1 : ∀ q ∈ lw_privs_1, lw_okq q := List.forall_mem_cons.mpr ⟨lw_p0, List.forall_mem_cons.mpr ⟨lw_p1, List.forall_mem_cons.mpr ⟨lw_p2, List.forall_mem_cons.mpr ⟨lw_p3, List.forall_mem_cons.mpr ⟨lw_p4, List.forall_mem_cons.mpr ⟨lw_p5, List.forall_mem_cons.mpr ⟨lw_p6, List.forall_mem_cons.mpr ⟨lw_p7, List.forall_mem_cons.mpr ⟨lw_p8, List.forall_mem_cons.mpr ⟨lw_p9, List.forall_mem_cons.mpr ⟨lw_p10, List.forall_mem_cons.mpr ⟨lw_p11, List.forall_mem_cons.mpr ⟨lw_p12, List.forall_mem_cons.mpr ⟨lw_p13, List.forall_mem_cons.mpr ⟨lw_p14, List.forall_mem_cons.mpr ⟨lw_p15, fun _ h => absurd h List.not_mem_nil⟩⟩⟩⟩⟩⟩⟩⟩⟩⟩⟩⟩⟩⟩⟩⟩
theorem lw_p16 : lw_okq (⟨"PictureRowsModel", "counted", "(I)I"⟩, 24) := ⟨⟨by decide +kernel, by decide +kernel⟩, List.mem_of_getElem? (i := 538) (by decide +kernel), List.mem_of_getElem? (i := 661) (by decide +kernel), List.mem_of_getElem? (i := 662) (by decide +kernel)⟩
theorem lw_p17 : lw_okq (⟨"PictureRowsModel", "sorts", "()V"⟩, 24) := ⟨⟨by decide +kernel, by decide +kernel⟩, List.mem_of_getElem? (i := 538) (by decide +kernel), List.mem_of_getElem? (i := 665) (by decide +kernel), List.mem_of_getElem? (i := 666) (by decide +kernel)⟩
theorem lw_p18 : lw_okq (⟨"PictureRowsModel", "wrong", "()I"⟩, 24) := ⟨⟨by decide +kernel, by decide +kernel⟩, List.mem_of_getElem? (i := 538) (by decide +kernel), List.mem_of_getElem? (i := 669) (by decide +kernel), List.mem_of_getElem? (i := 670) (by decide +kernel)⟩
theorem lw_p19 : lw_okq (⟨"PictureRowsModel", "isWrong", "(I)Z"⟩, 24) := ⟨⟨by decide +kernel, by decide +kernel⟩, List.mem_of_getElem? (i := 538) (by decide +kernel), List.mem_of_getElem? (i := 673) (by decide +kernel), List.mem_of_getElem? (i := 674) (by decide +kernel)⟩
theorem lw_p20 : lw_okq (⟨"PictureRowsModel", "isDigitFast", "(I)Z"⟩, 24) := ⟨⟨by decide +kernel, by decide +kernel⟩, List.mem_of_getElem? (i := 538) (by decide +kernel), List.mem_of_getElem? (i := 677) (by decide +kernel), List.mem_of_getElem? (i := 678) (by decide +kernel)⟩
theorem lw_p21 : lw_okq (⟨"PictureRowsModel", "isDigit", "(I)Z"⟩, 24) := ⟨⟨by decide +kernel, by decide +kernel⟩, List.mem_of_getElem? (i := 538) (by decide +kernel), List.mem_of_getElem? (i := 681) (by decide +kernel), List.mem_of_getElem? (i := 682) (by decide +kernel)⟩
theorem lw_p22 : lw_okq (⟨"PictureRowsModel", "hasMain", "()Z"⟩, 24) := ⟨⟨by decide +kernel, by decide +kernel⟩, List.mem_of_getElem? (i := 538) (by decide +kernel), List.mem_of_getElem? (i := 688) (by decide +kernel), List.mem_of_getElem? (i := 689) (by decide +kernel)⟩
theorem lw_p23 : lw_okq (⟨"PictureRowsModel", "keep", "()V"⟩, 24) := ⟨⟨by decide +kernel, by decide +kernel⟩, List.mem_of_getElem? (i := 538) (by decide +kernel), List.mem_of_getElem? (i := 692) (by decide +kernel), List.mem_of_getElem? (i := 693) (by decide +kernel)⟩
theorem lw_p24 : lw_okq (⟨"PictureRowsModel", "sort", "()I"⟩, 24) := ⟨⟨by decide +kernel, by decide +kernel⟩, List.mem_of_getElem? (i := 538) (by decide +kernel), List.mem_of_getElem? (i := 700) (by decide +kernel), List.mem_of_getElem? (i := 701) (by decide +kernel)⟩
theorem lw_p25 : lw_okq (⟨"PictureRowsModel", "ofKind", "(I)I"⟩, 24) := ⟨⟨by decide +kernel, by decide +kernel⟩, List.mem_of_getElem? (i := 538) (by decide +kernel), List.mem_of_getElem? (i := 704) (by decide +kernel), List.mem_of_getElem? (i := 705) (by decide +kernel)⟩
theorem lw_p26 : lw_okq (⟨"PictureRowsModel", "ofSign", "(I)I"⟩, 24) := ⟨⟨by decide +kernel, by decide +kernel⟩, List.mem_of_getElem? (i := 538) (by decide +kernel), List.mem_of_getElem? (i := 708) (by decide +kernel), List.mem_of_getElem? (i := 709) (by decide +kernel)⟩
theorem lw_p27 : lw_okq (⟨"PictureRowsModel", "isNumber", "()Z"⟩, 24) := ⟨⟨by decide +kernel, by decide +kernel⟩, List.mem_of_getElem? (i := 538) (by decide +kernel), List.mem_of_getElem? (i := 716) (by decide +kernel), List.mem_of_getElem? (i := 717) (by decide +kernel)⟩
theorem lw_p28 : lw_okq (⟨"PictureRowsModel", "digitsOf", "(I)I"⟩, 24) := ⟨⟨by decide +kernel, by decide +kernel⟩, List.mem_of_getElem? (i := 538) (by decide +kernel), List.mem_of_getElem? (i := 720) (by decide +kernel), List.mem_of_getElem? (i := 721) (by decide +kernel)⟩
theorem lw_p29 : lw_okq (⟨"PictureRowsModel", "point", "()I"⟩, 24) := ⟨⟨by decide +kernel, by decide +kernel⟩, List.mem_of_getElem? (i := 538) (by decide +kernel), List.mem_of_getElem? (i := 724) (by decide +kernel), List.mem_of_getElem? (i := 725) (by decide +kernel)⟩
theorem lw_p30 : lw_okq (⟨"PictureRowsModel", "isDigitOf", "(I)Z"⟩, 24) := ⟨⟨by decide +kernel, by decide +kernel⟩, List.mem_of_getElem? (i := 538) (by decide +kernel), List.mem_of_getElem? (i := 728) (by decide +kernel), List.mem_of_getElem? (i := 729) (by decide +kernel)⟩
def lw_privs_2 : List (MethodName × Nat) := [(⟨"PictureRowsModel", "counted", "(I)I"⟩, 24), (⟨"PictureRowsModel", "sorts", "()V"⟩, 24), (⟨"PictureRowsModel", "wrong", "()I"⟩, 24), (⟨"PictureRowsModel", "isWrong", "(I)Z"⟩, 24), (⟨"PictureRowsModel", "isDigitFast", "(I)Z"⟩, 24), (⟨"PictureRowsModel", "isDigit", "(I)Z"⟩, 24), (⟨"PictureRowsModel", "hasMain", "()Z"⟩, 24), (⟨"PictureRowsModel", "keep", "()V"⟩, 24), (⟨"PictureRowsModel", "sort", "()I"⟩, 24), (⟨"PictureRowsModel", "ofKind", "(I)I"⟩, 24), (⟨"PictureRowsModel", "ofSign", "(I)I"⟩, 24), (⟨"PictureRowsModel", "isNumber", "()Z"⟩, 24), (⟨"PictureRowsModel", "digitsOf", "(I)I"⟩, 24), (⟨"PictureRowsModel", "point", "()I"⟩, 24), (⟨"PictureRowsModel", "isDigitOf", "(I)Z"⟩, 24)]
theorem lw_r2 : ∀ q ∈ lw_privs_2, lw_okq q := List.forall_mem_cons.mpr ⟨lw_p16, List.forall_mem_cons.mpr ⟨lw_p17, List.forall_mem_cons.mpr ⟨lw_p18, List.forall_mem_cons.mpr ⟨lw_p19, List.forall_mem_cons.mpr ⟨lw_p20, List.forall_mem_cons.mpr ⟨lw_p21, List.forall_mem_cons.mpr ⟨lw_p22, List.forall_mem_cons.mpr ⟨lw_p23, List.forall_mem_cons.mpr ⟨lw_p24, List.forall_mem_cons.mpr ⟨lw_p25, List.forall_mem_cons.mpr ⟨lw_p26, List.forall_mem_cons.mpr ⟨lw_p27, List.forall_mem_cons.mpr ⟨lw_p28, List.forall_mem_cons.mpr ⟨lw_p29, List.forall_mem_cons.mpr ⟨lw_p30, fun _ h => absurd h List.not_mem_nil⟩⟩⟩⟩⟩⟩⟩⟩⟩⟩⟩⟩⟩⟩⟩
def lw_privs : List (MethodName × Nat) := lw_privs_1 ++ (lw_privs_2)
def lw_tbl : List Cond := k2_sels lw_privs ++ tables_1
theorem lw_privs_ok : ∀ q ∈ lw_privs, lw_okq q := by
  show ∀ q ∈ lw_privs_1 ++ (lw_privs_2), lw_okq q
  exact List.forall_mem_append.mpr ⟨lw_r1, lw_r2⟩
end
section
/-! ===== BEGIN words of one list among another's, by their places ===== -/
theorem goodIn_r {big : List Cond} (ws : List Cond) (ps : List Nat) (hp : ws = ps.filterMap (fun i => big[i]?)) (h : ws.all goodWord = true) : GoodIn big ws := by
  intro w hw
  have h1 := List.all_eq_true.mp h w hw
  rw [hp] at hw
  obtain ⟨i, -, hi⟩ := List.mem_filterMap.mp hw
  have hm : w ∈ big := by first | exact List.mem_of_getElem? hi | exact List.getElem?_mem hi
  exact ⟨hm, good_of_word h1⟩
theorem goodIn_app {big a b : List Cond} (ha : GoodIn big a) (hb : GoodIn big b) : GoodIn big (a ++ b) := fun w h => (List.mem_append.mp h).elim (ha w) (hb w)
theorem goodIn_ca {big a b : List Cond} {c : Cond} (ha : GoodIn big (c :: a)) (hb : GoodIn big b) : GoodIn big (c :: (a ++ b)) := fun w h => (List.mem_cons.mp h).elim (fun e => ha w (List.mem_cons.mpr (Or.inl e))) (fun h => (List.mem_append.mp h).elim (fun h => ha w (List.mem_cons.mpr (Or.inr h))) (hb w))
theorem goodIn_sub {big ws : List Cond} (hm : ∀ w ∈ ws, w ∈ big) (h : ws.all goodWord = true) : GoodIn big ws := fun w hw => ⟨hm w hw, good_of_word (List.all_eq_true.mp h w hw)⟩
/-! ===== END ===== -/

/-! ===== BEGIN printed: names, fields, word lists, decode rows ===== -/
def RX0 : String := "PictureRows$Effect"
def TX0 : u_T := fun k => match k with
  | 0 => ("PictureRows$Effect", "signs", "[I", true)
  | 1 => ("PictureRows$Effect", "times", "[I", true)
  | _ => ("PictureRows$Effect", "size", "I", false)
def tyX0 : Nat → FieldType := fun k => match k with
  | 0 => .array .int
  | 1 => .array .int
  | _ => .int
abbrev wsX00 : List Cond := u_ws RX0 TX0 3
theorem nmX0 : ∀ a, a < 3 → ∀ b, b < 3 → a ≠ b → (TX0 a).2.1 ≠ (TX0 b).2.1 := by decide +kernel
theorem tyX0_ok : ∀ k, k < 3 → parseFieldDescriptor (TX0 k).2.2.1 = some (tyX0 k) := by decide +kernel
abbrev cX0_init : ByteArray := prog_2_method_1_code
def yX0_init : MethodName := ⟨RX0, "<init>", "(I)V"⟩
abbrev cX0_add : ByteArray := prog_2_method_2_code
def yX0_add : MethodName := ⟨RX0, "add", "(II)V"⟩
abbrev cX0_equalTo : ByteArray := prog_2_method_3_code
def yX0_equalTo : MethodName := ⟨RX0, "equalTo", "(LPictureRows$Effect;)Z"⟩
abbrev cX0_signOf : ByteArray := prog_2_method_4_code
def yX0_signOf : MethodName := ⟨RX0, "signOf", "(I)I"⟩
abbrev cX0_timesOf : ByteArray := prog_2_method_5_code
def yX0_timesOf : MethodName := ⟨RX0, "timesOf", "(I)I"⟩
def RX1 : String := "PictureRows$Picture"
def TX1 : u_T := fun k => match k with
  | 0 => ("PictureRows$Picture", "signs", "[I", true)
  | 1 => ("PictureRows$Picture", "times", "[I", true)
  | 2 => ("PictureRows$Picture", "kinds", "[I", true)
  | 3 => ("PictureRows$Picture", "currencySign", "I", true)
  | 4 => ("PictureRows$Picture", "signCount", "I", true)
  | 5 => ("PictureRows$Picture", "category", "I", true)
  | 6 => ("PictureRows$Picture", "digitsAhead", "I", true)
  | 7 => ("PictureRows$Picture", "digitsBehind", "I", true)
  | 8 => ("PictureRows$Picture", "scale", "I", true)
  | _ => ("PictureRows$Picture", "effect", "LPictureRows$Effect;", true)
def tyX1 : Nat → FieldType := fun k => match k with
  | 0 => .array .int
  | 1 => .array .int
  | 2 => .array .int
  | 3 => .int
  | 4 => .int
  | 5 => .int
  | 6 => .int
  | 7 => .int
  | 8 => .int
  | _ => .object "PictureRows$Effect"
abbrev wsX10 : List Cond := u_ws RX1 TX1 10
theorem nmX1 : ∀ a, a < 10 → ∀ b, b < 10 → a ≠ b → (TX1 a).2.1 ≠ (TX1 b).2.1 := by decide +kernel
theorem tyX1_ok : ∀ k, k < 10 → parseFieldDescriptor (TX1 k).2.2.1 = some (tyX1 k) := by decide +kernel
abbrev cX1_init : ByteArray := prog_3_method_1_code
def yX1_init : MethodName := ⟨RX1, "<init>", "(LPictureRows$Runs;I)V"⟩
abbrev cX1_isNumber : ByteArray := prog_3_method_2_code
def yX1_isNumber : MethodName := ⟨RX1, "isNumber", "()Z"⟩
abbrev cX1_characterAt : ByteArray := prog_3_method_3_code
def yX1_characterAt : MethodName := ⟨RX1, "characterAt", "(I)I"⟩
abbrev cX1_letterOf : ByteArray := prog_3_method_4_code
def yX1_letterOf : MethodName := ⟨RX1, "letterOf", "(II)I"⟩
abbrev cX1_insertionsOf : ByteArray := prog_3_method_5_code
def yX1_insertionsOf : MethodName := ⟨RX1, "insertionsOf", "(I)I"⟩
abbrev cX1_countOf : ByteArray := prog_3_method_6_code
def yX1_countOf : MethodName := ⟨RX1, "countOf", "(I)I"⟩
abbrev cX1_countOfKind : ByteArray := prog_3_method_7_code
def yX1_countOfKind : MethodName := ⟨RX1, "countOfKind", "(I)I"⟩
def RX2 : String := "PictureRows$Runs"
def TX2 : u_T := fun k => match k with
  | 0 => ("PictureRows$Runs", "signs", "[I", true)
  | 1 => ("PictureRows$Runs", "times", "[I", true)
  | 2 => ("PictureRows$Runs", "places", "[I", true)
  | 3 => ("PictureRows$Runs", "kinds", "[I", true)
  | 4 => ("PictureRows$Runs", "digitCounts", "[I", true)
  | _ => ("PictureRows$Runs", "size", "I", false)
def tyX2 : Nat → FieldType := fun k => match k with
  | 0 => .array .int
  | 1 => .array .int
  | 2 => .array .int
  | 3 => .array .int
  | 4 => .array .int
  | _ => .int
abbrev wsX20 : List Cond := u_ws RX2 TX2 6
theorem nmX2 : ∀ a, a < 6 → ∀ b, b < 6 → a ≠ b → (TX2 a).2.1 ≠ (TX2 b).2.1 := by decide +kernel
theorem tyX2_ok : ∀ k, k < 6 → parseFieldDescriptor (TX2 k).2.2.1 = some (tyX2 k) := by decide +kernel
abbrev cX2_init : ByteArray := prog_4_method_1_code
def yX2_init : MethodName := ⟨RX2, "<init>", "()V"⟩
abbrev cX2_take : ByteArray := prog_4_method_2_code
def yX2_take : MethodName := ⟨RX2, "take", "(LPictureRows$Text;I)I"⟩
abbrev cX2_add : ByteArray := prog_4_method_3_code
def yX2_add : MethodName := ⟨RX2, "add", "(III)V"⟩
abbrev cX2_findKinds : ByteArray := prog_4_method_4_code
def yX2_findKinds : MethodName := ⟨RX2, "findKinds", "()V"⟩
abbrev cX2_countOf : ByteArray := prog_4_method_5_code
def yX2_countOf : MethodName := ⟨RX2, "countOf", "(I)I"⟩
abbrev cX2_kindOf : ByteArray := prog_4_method_6_code
def yX2_kindOf : MethodName := ⟨RX2, "kindOf", "(IZI)I"⟩
abbrev cX2_findDigits : ByteArray := prog_4_method_7_code
def yX2_findDigits : MethodName := ⟨RX2, "findDigits", "()V"⟩
abbrev cX2_standsAhead : ByteArray := prog_4_method_8_code
def yX2_standsAhead : MethodName := ⟨RX2, "standsAhead", "(II)Z"⟩
abbrev cX2_firstMisplaced : ByteArray := prog_4_method_9_code
def yX2_firstMisplaced : MethodName := ⟨RX2, "firstMisplaced", "()I"⟩
abbrev cX2_hasRivalAhead : ByteArray := prog_4_method_10_code
def yX2_hasRivalAhead : MethodName := ⟨RX2, "hasRivalAhead", "(I)Z"⟩
abbrev cX2_kindsPresent : ByteArray := prog_4_method_11_code
def yX2_kindsPresent : MethodName := ⟨RX2, "kindsPresent", "()I"⟩
abbrev cX2_pointRun : ByteArray := prog_4_method_12_code
def yX2_pointRun : MethodName := ⟨RX2, "pointRun", "()I"⟩
abbrev cX2_digitsIn : ByteArray := prog_4_method_13_code
def yX2_digitsIn : MethodName := ⟨RX2, "digitsIn", "(II)I"⟩
abbrev cX2_allSignsCounted : ByteArray := prog_4_method_14_code
def yX2_allSignsCounted : MethodName := ⟨RX2, "allSignsCounted", "()I"⟩
abbrev cX2_categoryOf : ByteArray := prog_4_method_15_code
def yX2_categoryOf : MethodName := ⟨RX2, "categoryOf", "(I)I"⟩
def RX3 : String := "PictureRows$Text"
def TX3 : u_T := fun k => match k with
  | 0 => ("PictureRows$Text", "characters", "[I", true)
  | _ => ("PictureRows$Text", "length", "I", false)
def tyX3 : Nat → FieldType := fun k => match k with
  | 0 => .array .int
  | _ => .int
abbrev wsX30 : List Cond := u_ws RX3 TX3 2
theorem nmX3 : ∀ a, a < 2 → ∀ b, b < 2 → a ≠ b → (TX3 a).2.1 ≠ (TX3 b).2.1 := by decide +kernel
theorem tyX3_ok : ∀ k, k < 2 → parseFieldDescriptor (TX3 k).2.2.1 = some (tyX3 k) := by decide +kernel
abbrev cX3_init : ByteArray := prog_5_method_1_code
def yX3_init : MethodName := ⟨RX3, "<init>", "()V"⟩
abbrev cX3_append : ByteArray := prog_5_method_2_code
def yX3_append : MethodName := ⟨RX3, "append", "(I)V"⟩
abbrev cX3_clear : ByteArray := prog_5_method_3_code
def yX3_clear : MethodName := ⟨RX3, "clear", "()V"⟩
abbrev cX3_characterAt : ByteArray := prog_5_method_4_code
def yX3_characterAt : MethodName := ⟨RX3, "characterAt", "(I)I"⟩
abbrev cX3_signAt : ByteArray := prog_5_method_5_code
def yX3_signAt : MethodName := ⟨RX3, "signAt", "(II)I"⟩
abbrev cX3_closeOf : ByteArray := prog_5_method_6_code
def yX3_closeOf : MethodName := ⟨RX3, "closeOf", "(I)I"⟩
abbrev cX3_numberBetween : ByteArray := prog_5_method_7_code
def yX3_numberBetween : MethodName := ⟨RX3, "numberBetween", "(II)I"⟩
def RX4 : String := "PictureRows"
def TX4 : u_T := fun k => match k with
  | 0 => ("PictureRows", "text", "LPictureRows$Text;", true)
  | 1 => ("PictureRows", "runs", "LPictureRows$Runs;", true)
  | 2 => ("PictureRows", "kept", "[LPictureRows$Picture;", true)
  | 3 => ("PictureRows", "keptCount", "I", false)
  | 4 => ("PictureRows", "latest", "LPictureRows$Picture;", false)
  | _ => ("PictureRows", "currencySign", "I", false)
def tyX4 : Nat → FieldType := fun k => match k with
  | 0 => .object "PictureRows$Text"
  | 1 => .object "PictureRows$Runs"
  | 2 => .array (.object "PictureRows$Picture")
  | 3 => .int
  | 4 => .object "PictureRows$Picture"
  | _ => .int
abbrev wsX40 : List Cond := u_ws RX4 TX4 6
theorem nmX4 : ∀ a, a < 6 → ∀ b, b < 6 → a ≠ b → (TX4 a).2.1 ≠ (TX4 b).2.1 := by decide +kernel
theorem tyX4_ok : ∀ k, k < 6 → parseFieldDescriptor (TX4 k).2.2.1 = some (tyX4 k) := by decide +kernel
abbrev cX4_init : ByteArray := prog_1_method_1_code
def yX4_init : MethodName := ⟨RX4, "<init>", "()V"⟩
abbrev cX4_sign : ByteArray := prog_1_method_2_code
def yX4_sign : MethodName := ⟨RX4, "sign", "(I)V"⟩
abbrev cX4_read : ByteArray := prog_1_method_3_code
def yX4_read : MethodName := ⟨RX4, "read", "()I"⟩
abbrev cX4_category : ByteArray := prog_1_method_4_code
def yX4_category : MethodName := ⟨RX4, "category", "()I"⟩
abbrev cX4_digits : ByteArray := prog_1_method_5_code
def yX4_digits : MethodName := ⟨RX4, "digits", "(I)I"⟩
abbrev cX4_scale : ByteArray := prog_1_method_6_code
def yX4_scale : MethodName := ⟨RX4, "scale", "()I"⟩
abbrev cX4_follows : ByteArray := prog_1_method_7_code
def yX4_follows : MethodName := ⟨RX4, "follows", "(II)Z"⟩
abbrev cX4_currency : ByteArray := prog_1_method_8_code
def yX4_currency : MethodName := ⟨RX4, "currency", "(I)I"⟩
abbrev cX4_at : ByteArray := prog_1_method_9_code
def yX4_at : MethodName := ⟨RX4, "at", "(I)I"⟩
abbrev cX4_same : ByteArray := prog_1_method_10_code
def yX4_same : MethodName := ⟨RX4, "same", "(I)Z"⟩
abbrev cX4_insertion : ByteArray := prog_1_method_11_code
def yX4_insertion : MethodName := ⟨RX4, "insertion", "(I)I"⟩
abbrev cX4_firstWrongPlace : ByteArray := prog_1_method_12_code
def yX4_firstWrongPlace : MethodName := ⟨RX4, "firstWrongPlace", "()I"⟩
abbrev cX4_keep : ByteArray := prog_1_method_13_code
def yX4_keep : MethodName := ⟨RX4, "keep", "(LPictureRows$Picture;)V"⟩
abbrev cX4_isKind : ByteArray := prog_1_method_14_code
def yX4_isKind : MethodName := ⟨RX4, "isKind", "(I)Z"⟩
abbrev cX4_holds : ByteArray := prog_1_method_15_code
def yX4_holds : MethodName := ⟨RX4, "holds", "(II)Z"⟩
abbrev cX4_greatOf : ByteArray := prog_1_method_16_code
def yX4_greatOf : MethodName := ⟨RX4, "greatOf", "(I)I"⟩
abbrev cX4_canBeCurrency : ByteArray := prog_1_method_17_code
def yX4_canBeCurrency : MethodName := ⟨RX4, "canBeCurrency", "(I)Z"⟩
abbrev cX4_widthOf : ByteArray := prog_1_method_18_code
def yX4_widthOf : MethodName := ⟨RX4, "widthOf", "(I)I"⟩
abbrev cX4_signsCounted : ByteArray := prog_1_method_19_code
def yX4_signsCounted : MethodName := ⟨RX4, "signsCounted", "(II)I"⟩
def RX5 : String := "PictureRowsModel"
def TX5 : u_T := fun k => match k with
  | 0 => ("PictureRowsModel", "thrown", "I", false)
  | 1 => ("PictureRowsModel", "text", "[I", true)
  | 2 => ("PictureRowsModel", "length", "I", false)
  | 3 => ("PictureRowsModel", "money", "I", false)
  | 4 => ("PictureRowsModel", "read", "[I", true)
  | 5 => ("PictureRowsModel", "place", "[I", true)
  | 6 => ("PictureRowsModel", "kind", "[I", true)
  | 7 => ("PictureRowsModel", "many", "I", false)
  | 8 => ("PictureRowsModel", "pluses", "I", false)
  | 9 => ("PictureRowsModel", "minuses", "I", false)
  | 10 => ("PictureRowsModel", "moneys", "I", false)
  | 11 => ("PictureRowsModel", "signs", "[I", true)
  | 12 => ("PictureRowsModel", "kinds", "[I", true)
  | 13 => ("PictureRowsModel", "letters", "[I", true)
  | 14 => ("PictureRowsModel", "latest", "I", false)
  | 15 => ("PictureRowsModel", "kept", "I", false)
  | 16 => ("PictureRowsModel", "shown", "I", false)
  | 17 => ("PictureRowsModel", "moneyOf", "I", false)
  | 18 => ("PictureRowsModel", "rows", "[I", true)
  | 19 => ("PictureRowsModel", "rowKinds", "[I", true)
  | 20 => ("PictureRowsModel", "sizes", "[I", true)
  | 21 => ("PictureRowsModel", "table", "[I", true)
  | 22 => ("PictureRowsModel", "mine", "[I", true)
  | _ => ("PictureRowsModel", "its", "[I", true)
def tyX5 : Nat → FieldType := fun k => match k with
  | 0 => .int
  | 1 => .array .int
  | 2 => .int
  | 3 => .int
  | 4 => .array .int
  | 5 => .array .int
  | 6 => .array .int
  | 7 => .int
  | 8 => .int
  | 9 => .int
  | 10 => .int
  | 11 => .array .int
  | 12 => .array .int
  | 13 => .array .int
  | 14 => .int
  | 15 => .int
  | 16 => .int
  | 17 => .int
  | 18 => .array .int
  | 19 => .array .int
  | 20 => .array .int
  | 21 => .array .int
  | 22 => .array .int
  | _ => .array .int
abbrev wsX50 : List Cond := u_ws RX5 TX5 24
theorem nmX5 : ∀ a, a < 24 → ∀ b, b < 24 → a ≠ b → (TX5 a).2.1 ≠ (TX5 b).2.1 := by decide +kernel
theorem tyX5_ok : ∀ k, k < 24 → parseFieldDescriptor (TX5 k).2.2.1 = some (tyX5 k) := by decide +kernel
abbrev cX5_init : ByteArray := prog_7_method_1_code
def yX5_init : MethodName := ⟨RX5, "<init>", "()V"⟩
abbrev cX5_thrown : ByteArray := prog_7_method_2_code
def yX5_thrown : MethodName := ⟨RX5, "thrown", "()I"⟩
abbrev cX5_sign : ByteArray := prog_7_method_3_code
def yX5_sign : MethodName := ⟨RX5, "sign", "(I)V"⟩
abbrev cX5_at0 : ByteArray := prog_7_method_4_code
def yX5_at0 : MethodName := ⟨RX5, "at0", "(I)I"⟩
abbrev cX5_great : ByteArray := prog_7_method_5_code
def yX5_great : MethodName := ⟨RX5, "great", "(I)I"⟩
abbrev cX5_signAt : ByteArray := prog_7_method_6_code
def yX5_signAt : MethodName := ⟨RX5, "signAt", "(I)I"⟩
abbrev cX5_behindCount : ByteArray := prog_7_method_7_code
def yX5_behindCount : MethodName := ⟨RX5, "behindCount", "(I)I"⟩
abbrev cX5_counted : ByteArray := prog_7_method_8_code
def yX5_counted : MethodName := ⟨RX5, "counted", "(I)I"⟩
abbrev cX5_scan : ByteArray := prog_7_method_9_code
def yX5_scan : MethodName := ⟨RX5, "scan", "()I"⟩
abbrev cX5_sorts : ByteArray := prog_7_method_10_code
def yX5_sorts : MethodName := ⟨RX5, "sorts", "()V"⟩
abbrev cX5_isDigit : ByteArray := prog_7_method_11_code
def yX5_isDigit : MethodName := ⟨RX5, "isDigit", "(I)Z"⟩
abbrev cX5_width : ByteArray := prog_7_method_12_code
def yX5_width : MethodName := ⟨RX5, "width", "(I)I"⟩
abbrev cX5_isWrong : ByteArray := prog_7_method_13_code
def yX5_isWrong : MethodName := ⟨RX5, "isWrong", "(I)Z"⟩
abbrev cX5_wrong : ByteArray := prog_7_method_14_code
def yX5_wrong : MethodName := ⟨RX5, "wrong", "()I"⟩
abbrev cX5_isDigitFast : ByteArray := prog_7_method_15_code
def yX5_isDigitFast : MethodName := ⟨RX5, "isDigitFast", "(I)Z"⟩
abbrev cX5_hasMain : ByteArray := prog_7_method_16_code
def yX5_hasMain : MethodName := ⟨RX5, "hasMain", "()Z"⟩
abbrev cX5_read : ByteArray := prog_7_method_17_code
def yX5_read : MethodName := ⟨RX5, "read", "()I"⟩
abbrev cX5_keep : ByteArray := prog_7_method_18_code
def yX5_keep : MethodName := ⟨RX5, "keep", "()V"⟩
abbrev cX5_ofKind : ByteArray := prog_7_method_19_code
def yX5_ofKind : MethodName := ⟨RX5, "ofKind", "(I)I"⟩
abbrev cX5_ofSign : ByteArray := prog_7_method_20_code
def yX5_ofSign : MethodName := ⟨RX5, "ofSign", "(I)I"⟩
abbrev cX5_sort : ByteArray := prog_7_method_21_code
def yX5_sort : MethodName := ⟨RX5, "sort", "()I"⟩
abbrev cX5_category : ByteArray := prog_7_method_22_code
def yX5_category : MethodName := ⟨RX5, "category", "()I"⟩
abbrev cX5_isDigitOf : ByteArray := prog_7_method_23_code
def yX5_isDigitOf : MethodName := ⟨RX5, "isDigitOf", "(I)Z"⟩
abbrev cX5_point : ByteArray := prog_7_method_24_code
def yX5_point : MethodName := ⟨RX5, "point", "()I"⟩
abbrev cX5_digitsOf : ByteArray := prog_7_method_25_code
def yX5_digitsOf : MethodName := ⟨RX5, "digitsOf", "(I)I"⟩
abbrev cX5_isNumber : ByteArray := prog_7_method_26_code
def yX5_isNumber : MethodName := ⟨RX5, "isNumber", "()Z"⟩
abbrev cX5_digits : ByteArray := prog_7_method_27_code
def yX5_digits : MethodName := ⟨RX5, "digits", "(I)I"⟩
abbrev cX5_scale : ByteArray := prog_7_method_28_code
def yX5_scale : MethodName := ⟨RX5, "scale", "()I"⟩
abbrev cX5_follows : ByteArray := prog_7_method_29_code
def yX5_follows : MethodName := ⟨RX5, "follows", "(II)Z"⟩
abbrev cX5_currency : ByteArray := prog_7_method_30_code
def yX5_currency : MethodName := ⟨RX5, "currency", "(I)I"⟩
abbrev cX5_at : ByteArray := prog_7_method_31_code
def yX5_at : MethodName := ⟨RX5, "at", "(I)I"⟩
abbrev cX5_bare : ByteArray := prog_7_method_32_code
def yX5_bare : MethodName := ⟨RX5, "bare", "([I[III[I)I"⟩
abbrev cX5_isIdle : ByteArray := prog_7_method_33_code
def yX5_isIdle : MethodName := ⟨RX5, "isIdle", "([IIII)Z"⟩
abbrev cX5_same : ByteArray := prog_7_method_34_code
def yX5_same : MethodName := ⟨RX5, "same", "(I)Z"⟩
abbrev cX5_insertion : ByteArray := prog_7_method_35_code
def yX5_insertion : MethodName := ⟨RX5, "insertion", "(I)I"⟩
def RJx00060 : String := "java/lang/ArrayIndexOutOfBoundsException"
def TJx00060 : u_T := fun k => match k with
  | 0 => ("java/lang/Throwable", "cause", "Ljava/lang/Throwable;", false)
  | 1 => ("java/lang/Throwable", "stackTrace", "[Ljava/lang/StackTraceElement;", false)
  | 2 => ("java/lang/Throwable", "suppressedExceptions", "Ljava/util/List;", false)
  | 3 => ("java/lang/Throwable", "detailMessage", "Ljava/lang/String;", false)
  | 4 => ("java/lang/Throwable", "backtrace", "Ljava/lang/Object;", false)
  | _ => ("java/lang/Throwable", "depth", "I", false)
def tyJx00060 : Nat → FieldType := fun k => match k with
  | 0 => .object "java/lang/Throwable"
  | 1 => .array (.object "java/lang/StackTraceElement")
  | 2 => .object "java/util/List"
  | 3 => .object "java/lang/String"
  | 4 => .object "java/lang/Object"
  | _ => .int
abbrev wsJx000600 : List Cond := u_ws RJx00060 TJx00060 6
theorem nmJx00060 : ∀ a, a < 6 → ∀ b, b < 6 → a ≠ b → (TJx00060 a).2.1 ≠ (TJx00060 b).2.1 := by decide +kernel
theorem tyJx00060_ok : ∀ k, k < 6 → parseFieldDescriptor (TJx00060 k).2.2.1 = some (tyJx00060 k) := by decide +kernel
abbrev cJx00060_init_a7421 : ByteArray := prog_8_method_2_code
def yJx00060_init_a7421 : MethodName := ⟨RJx00060, "<init>", "(Ljava/lang/String;)V"⟩
def RJ11 : String := "java/lang/Character"
def TJ11 : u_T := fun k => match k with
  | _ => ("", "", "", false)
def tyJ11 : Nat → FieldType := fun k => match k with
  | _ => .int
abbrev wsJ110 : List Cond := u_ws RJ11 TJ11 0
theorem nmJ11 : ∀ a, a < 0 → ∀ b, b < 0 → a ≠ b → (TJ11 a).2.1 ≠ (TJ11 b).2.1 := by decide +kernel
theorem tyJ11_ok : ∀ k, k < 0 → parseFieldDescriptor (TJ11 k).2.2.1 = some (tyJ11 k) := by decide +kernel
abbrev cJ11_isValidCodePoint_9a6ad : ByteArray := prog_9_method_11_code
def yJ11_isValidCodePoint_9a6ad : MethodName := ⟨RJ11, "isValidCodePoint", "(I)Z"⟩
abbrev cJ11_highSurrogate_5068e : ByteArray := prog_9_method_28_code
def yJ11_highSurrogate_5068e : MethodName := ⟨RJ11, "highSurrogate", "(I)C"⟩
abbrev cJ11_lowSurrogate_5068e : ByteArray := prog_9_method_29_code
def yJ11_lowSurrogate_5068e : MethodName := ⟨RJ11, "lowSurrogate", "(I)C"⟩
def RJx8e188 : String := "java/lang/Cloneable"
def TJx8e188 : u_T := fun k => match k with
  | _ => ("", "", "", false)
def tyJx8e188 : Nat → FieldType := fun k => match k with
  | _ => .int
abbrev wsJx8e1880 : List Cond := u_ws RJx8e188 TJx8e188 0
theorem nmJx8e188 : ∀ a, a < 0 → ∀ b, b < 0 → a ≠ b → (TJx8e188 a).2.1 ≠ (TJx8e188 b).2.1 := by decide +kernel
theorem tyJx8e188_ok : ∀ k, k < 0 → parseFieldDescriptor (TJx8e188 k).2.2.1 = some (tyJx8e188 k) := by decide +kernel
def RJ9 : String := "java/lang/Math"
def TJ9 : u_T := fun k => match k with
  | _ => ("", "", "", false)
def tyJ9 : Nat → FieldType := fun k => match k with
  | _ => .int
abbrev wsJ90 : List Cond := u_ws RJ9 TJ9 0
theorem nmJ9 : ∀ a, a < 0 → ∀ b, b < 0 → a ≠ b → (TJ9 a).2.1 ≠ (TJ9 b).2.1 := by decide +kernel
theorem tyJ9_ok : ∀ k, k < 0 → parseFieldDescriptor (TJ9 k).2.2.1 = some (tyJ9 k) := by decide +kernel
abbrev cJ9_max_7cf53 : ByteArray := prog_13_method_65_code
def yJ9_max_7cf53 : MethodName := ⟨RJ9, "max", "(II)I"⟩
abbrev cJ9_min_7cf53 : ByteArray := prog_13_method_69_code
def yJ9_min_7cf53 : MethodName := ⟨RJ9, "min", "(II)I"⟩
def RJ0 : String := "java/lang/String"
def TJ0 : u_T := fun k => match k with
  | _ => ("", "", "", false)
def tyJ0 : Nat → FieldType := fun k => match k with
  | _ => .int
abbrev wsJ00 : List Cond := u_ws RJ0 TJ0 0
theorem nmJ0 : ∀ a, a < 0 → ∀ b, b < 0 → a ≠ b → (TJ0 a).2.1 ≠ (TJ0 b).2.1 := by decide +kernel
theorem tyJ0_ok : ∀ k, k < 0 → parseFieldDescriptor (TJ0 k).2.2.1 = some (tyJ0 k) := by decide +kernel
abbrev cJ0_length_8abf5 : ByteArray := prog_15_method_54_code
def yJ0_length_8abf5 : MethodName := ⟨RJ0, "length", "()I"⟩
abbrev cJ0_indexOf_0f7a4 : ByteArray := prog_15_method_79_code
def yJ0_indexOf_0f7a4 : MethodName := ⟨RJ0, "indexOf", "(I)I"⟩
abbrev cJ0_indexOf_7cf53 : ByteArray := prog_15_method_80_code
def yJ0_indexOf_7cf53 : MethodName := ⟨RJ0, "indexOf", "(II)I"⟩
abbrev cJ0_coder_7d493 : ByteArray := prog_15_method_152_code
def yJ0_coder_7d493 : MethodName := ⟨RJ0, "coder", "()B"⟩
abbrev cJ0_isLatin1_aae02 : ByteArray := prog_15_method_154_code
def yJ0_isLatin1_aae02 : MethodName := ⟨RJ0, "isLatin1", "()Z"⟩
abbrev cJ0_checkBoundsBeginEnd_23922 : ByteArray := prog_15_method_158_code
def yJ0_checkBoundsBeginEnd_23922 : MethodName := ⟨RJ0, "checkBoundsBeginEnd", "(III)V"⟩
def RJ1 : String := "java/lang/StringLatin1"
def TJ1 : u_T := fun k => match k with
  | _ => ("", "", "", false)
def tyJ1 : Nat → FieldType := fun k => match k with
  | _ => .int
abbrev wsJ10 : List Cond := u_ws RJ1 TJ1 0
theorem nmJ1 : ∀ a, a < 0 → ∀ b, b < 0 → a ≠ b → (TJ1 a).2.1 ≠ (TJ1 b).2.1 := by decide +kernel
theorem tyJ1_ok : ∀ k, k < 0 → parseFieldDescriptor (TJ1 k).2.2.1 = some (tyJ1 k) := by decide +kernel
abbrev cJ1_canEncode_9a6ad : ByteArray := prog_16_method_4_code
def yJ1_canEncode_9a6ad : MethodName := ⟨RJ1, "canEncode", "(I)Z"⟩
abbrev cJ1_indexOf_4cfef : ByteArray := prog_16_method_22_code
def yJ1_indexOf_4cfef : MethodName := ⟨RJ1, "indexOf", "([BIII)I"⟩
abbrev cJ1_indexOfChar_4cfef : ByteArray := prog_16_method_23_code
def yJ1_indexOfChar_4cfef : MethodName := ⟨RJ1, "indexOfChar", "([BIII)I"⟩
def RJ2 : String := "java/lang/StringUTF16"
def TJ2 : u_T := fun k => match k with
  | _ => ("", "", "", false)
def tyJ2 : Nat → FieldType := fun k => match k with
  | _ => .int
abbrev wsJ20 : List Cond := u_ws RJ2 TJ2 0
theorem nmJ2 : ∀ a, a < 0 → ∀ b, b < 0 → a ≠ b → (TJ2 a).2.1 ≠ (TJ2 b).2.1 := by decide +kernel
theorem tyJ2_ok : ∀ k, k < 0 → parseFieldDescriptor (TJ2 k).2.2.1 = some (tyJ2 k) := by decide +kernel
abbrev cJ2_getChar_3b067 : ByteArray := prog_17_method_5_code
def yJ2_getChar_3b067 : MethodName := ⟨RJ2, "getChar", "([BI)C"⟩
abbrev cJ2_length_9d52b : ByteArray := prog_17_method_6_code
def yJ2_length_9d52b : MethodName := ⟨RJ2, "length", "([B)I"⟩
abbrev cJ2_indexOf_4cfef : ByteArray := prog_17_method_40_code
def yJ2_indexOf_4cfef : MethodName := ⟨RJ2, "indexOf", "([BIII)I"⟩
abbrev cJ2_indexOfChar_4cfef : ByteArray := prog_17_method_47_code
def yJ2_indexOfChar_4cfef : MethodName := ⟨RJ2, "indexOfChar", "([BIII)I"⟩
abbrev cJ2_indexOfCharUnsafe_4cfef : ByteArray := prog_17_method_48_code
def yJ2_indexOfCharUnsafe_4cfef : MethodName := ⟨RJ2, "indexOfCharUnsafe", "([BIII)I"⟩
abbrev cJ2_indexOfSupplementary_4cfef : ByteArray := prog_17_method_49_code
def yJ2_indexOfSupplementary_4cfef : MethodName := ⟨RJ2, "indexOfSupplementary", "([BIII)I"⟩
abbrev cJ2_checkBoundsBeginEnd_d044e : ByteArray := prog_17_method_93_code
def yJ2_checkBoundsBeginEnd_d044e : MethodName := ⟨RJ2, "checkBoundsBeginEnd", "(II[B)V"⟩
def RJ10 : String := "java/lang/System"
def TJ10 : u_T := fun k => match k with
  | _ => ("", "", "", false)
def tyJ10 : Nat → FieldType := fun k => match k with
  | _ => .int
abbrev wsJ100 : List Cond := u_ws RJ10 TJ10 0
theorem nmJ10 : ∀ a, a < 0 → ∀ b, b < 0 → a ≠ b → (TJ10 a).2.1 ≠ (TJ10 b).2.1 := by decide +kernel
theorem tyJ10_ok : ∀ k, k < 0 → parseFieldDescriptor (TJ10 k).2.2.1 = some (tyJ10 k) := by decide +kernel
def RJ7 : String := "java/util/Arrays"
def TJ7 : u_T := fun k => match k with
  | _ => ("", "", "", false)
def tyJ7 : Nat → FieldType := fun k => match k with
  | _ => .int
abbrev wsJ70 : List Cond := u_ws RJ7 TJ7 0
theorem nmJ7 : ∀ a, a < 0 → ∀ b, b < 0 → a ≠ b → (TJ7 a).2.1 ≠ (TJ7 b).2.1 := by decide +kernel
theorem tyJ7_ok : ∀ k, k < 0 → parseFieldDescriptor (TJ7 k).2.2.1 = some (tyJ7 k) := by decide +kernel
abbrev cJ7_copyOf_59c91 : ByteArray := prog_20_method_123_code
def yJ7_copyOf_59c91 : MethodName := ⟨RJ7, "copyOf", "([II)[I"⟩
def RJ3 : String := "jdk/internal/util/Preconditions"
def TJ3 : u_T := fun k => match k with
  | _ => ("", "", "", false)
def tyJ3 : Nat → FieldType := fun k => match k with
  | _ => .int
abbrev wsJ30 : List Cond := u_ws RJ3 TJ3 0
theorem nmJ3 : ∀ a, a < 0 → ∀ b, b < 0 → a ≠ b → (TJ3 a).2.1 ≠ (TJ3 b).2.1 := by decide +kernel
theorem tyJ3_ok : ∀ k, k < 0 → parseFieldDescriptor (TJ3 k).2.2.1 = some (tyJ3 k) := by decide +kernel
abbrev cJ3_checkFromToIndex_8c36e : ByteArray := prog_21_method_12_code
def yJ3_checkFromToIndex_8c36e : MethodName := ⟨RJ3, "checkFromToIndex", "(IIILjava/util/function/BiFunction;)I"⟩
def RL : String := "PictureRowsLaw"
abbrev cL_follows : ByteArray := method_3_code
def yL_follows : MethodName := ⟨RL, "follows", "(LPictureRows;II[J)I"⟩
abbrev cL_law : ByteArray := code
def yL_law : MethodName := ⟨RL, "law", "([I)Z"⟩
def wsX0_init : List Cond := .code yX0_init cX0_init 2 none :: ([.methodLink RX0 3 objectInit, .instanceMethod objectInit, .code objectInit ⟨#[0xb1]⟩ 1 none, .fieldLink RX0 9 "PictureRows$Effect" "size" "I", .methodLink RX0 15 Lib.Math.max.name, .static Lib.Math.max.name, .initialized "java/lang/Math", .code Lib.Math.max.name Lib.Math.max.code 2 (some .int), .arrayClass .int, .fieldLink RX0 21 "PictureRows$Effect" "signs" "[I", .fieldLink RX0 25 "PictureRows$Effect" "times" "[I"] ++ wsX00)
def wsX0_add : List Cond := .code yX0_add cX0_add 4 none :: ([.fieldLink RX0 9 "PictureRows$Effect" "size" "I", .fieldLink RX0 21 "PictureRows$Effect" "signs" "[I", .fieldLink RX0 25 "PictureRows$Effect" "times" "[I"] ++ wsX00)
def wsX0_signOf : List Cond := .code yX0_signOf cX0_signOf 2 (some .int) :: ([.fieldLink RX0 21 "PictureRows$Effect" "signs" "[I"] ++ wsX00)
def wsX0_timesOf : List Cond := .code yX0_timesOf cX0_timesOf 2 (some .int) :: ([.fieldLink RX0 25 "PictureRows$Effect" "times" "[I"] ++ wsX00)
def wsX0_equalTo : List Cond := .code yX0_equalTo cX0_equalTo 3 (some .boolean) :: ([.fieldLink RX0 9 "PictureRows$Effect" "size" "I", .methodLink RX0 28 yX0_signOf, .instanceMethod yX0_signOf, .selects RX0 yX0_signOf yX0_signOf, .initialized RX0, .code yX0_signOf cX0_signOf 2 (some .int), .fieldLink RX0 21 "PictureRows$Effect" "signs" "[I", .methodLink RX0 32 yX0_timesOf, .instanceMethod yX0_timesOf, .selects RX0 yX0_timesOf yX0_timesOf, .code yX0_timesOf cX0_timesOf 2 (some .int), .fieldLink RX0 25 "PictureRows$Effect" "times" "[I"] ++ wsX00)
def wsX2_kindsPresent : List Cond := .code yX2_kindsPresent cX2_kindsPresent 3 (some .int) :: ([.fieldLink RX2 27 "PictureRows$Runs" "size" "I", .fieldLink RX2 21 "PictureRows$Runs" "kinds" "[I"] ++ wsX20)
def wsX4_holds : List Cond := .code yX4_holds cX4_holds 2 (some .boolean) :: ([])
def wsX2_pointRun : List Cond := .code yX2_pointRun cX2_pointRun 2 (some .int) :: ([.fieldLink RX2 27 "PictureRows$Runs" "size" "I", .constant RX2 64 (98308), .fieldLink RX2 21 "PictureRows$Runs" "kinds" "[I", .static yX4_holds, .initialized RX4, .code yX4_holds cX4_holds 2 (some .boolean)] ++ wsX20)
def wsJ7_copyOf_59c91 : List Cond := .code yJ7_copyOf_59c91 cJ7_copyOf_59c91 3 (some (.array .int)) :: ([.methodLink RJ7 316 ⟨"[I", "clone", "()Ljava/lang/Object;"⟩, .sameMethod "[I" "java/lang/Object" "clone" "()Ljava/lang/Object;", .native ⟨"java/lang/Object", "clone", "()Ljava/lang/Object;"⟩, .instanceMethod ⟨"java/lang/Object", "clone", "()Ljava/lang/Object;"⟩, .selects "[I" ⟨"[I", "clone", "()Ljava/lang/Object;"⟩ ⟨"java/lang/Object", "clone", "()Ljava/lang/Object;"⟩, .classLink RJ7 317 "[I", .arrayClass .int, .methodLink RJ7 304 Lib.Math.min.name, .static Lib.Math.min.name, .initialized "java/lang/Math", .code Lib.Math.min.name Lib.Math.min.code 2 (some .int), .methodLink RJ7 150 arraycopyName, .native arraycopyName, .static arraycopyName, .initialized "java/lang/System"])
def wsX4_widthOf : List Cond := .code yX4_widthOf cX4_widthOf 1 (some .int) :: ([])
def wsX4_signsCounted : List Cond := .code yX4_signsCounted cX4_signsCounted 2 (some .int) :: ([.methodLink RX4 146 yX4_widthOf, .static yX4_widthOf, .initialized RX4, .code yX4_widthOf cX4_widthOf 1 (some .int)])
def wsX2_allSignsCounted : List Cond := .code yX2_allSignsCounted cX2_allSignsCounted 3 (some .int) :: ([.fieldLink RX2 27 "PictureRows$Runs" "size" "I", .fieldLink RX2 9 "PictureRows$Runs" "signs" "[I", .fieldLink RX2 15 "PictureRows$Runs" "times" "[I", .static yX4_signsCounted, .initialized RX4, .code yX4_signsCounted cX4_signsCounted 2 (some .int), .methodLink RX4 146 yX4_widthOf, .static yX4_widthOf, .code yX4_widthOf cX4_widthOf 1 (some .int)] ++ wsX20)
def wsX2_standsAhead : List Cond := .code yX2_standsAhead cX2_standsAhead 4 (some .boolean) :: ([.fieldLink RX2 9 "PictureRows$Runs" "signs" "[I"] ++ wsX20)
def wsX2_categoryOf : List Cond := .code yX2_categoryOf cX2_categoryOf 2 (some .int) :: ([.fieldLink RX2 27 "PictureRows$Runs" "size" "I", .constant RX2 93 (-249857), .static yX4_holds, .initialized RX4, .code yX4_holds cX4_holds 2 (some .boolean), .methodLink RX2 71 yX2_standsAhead, .instanceMethod yX2_standsAhead, .selects RX2 yX2_standsAhead yX2_standsAhead, .initialized RX2, .code yX2_standsAhead cX2_standsAhead 4 (some .boolean), .fieldLink RX2 9 "PictureRows$Runs" "signs" "[I"] ++ wsX20)
def wsX2_digitsIn : List Cond := .code yX2_digitsIn cX2_digitsIn 5 (some .int) :: ([.methodLink RX2 88 Lib.Math.max.name, .static Lib.Math.max.name, .initialized "java/lang/Math", .code Lib.Math.max.name Lib.Math.max.code 2 (some .int), .fieldLink RX2 27 "PictureRows$Runs" "size" "I", .fieldLink RX2 24 "PictureRows$Runs" "digitCounts" "[I"] ++ wsX20)
def wsX2_countOf : List Cond := .code yX2_countOf cX2_countOf 4 (some .int) :: ([.fieldLink RX2 27 "PictureRows$Runs" "size" "I", .fieldLink RX2 9 "PictureRows$Runs" "signs" "[I", .fieldLink RX2 15 "PictureRows$Runs" "times" "[I"] ++ wsX20)
def wsX1_init_r1 : List Cond := [Cond.methodLink RX1 3 objectInit, Cond.instanceMethod objectInit, Cond.code objectInit ⟨#[0xb1]⟩ 1 none, Cond.methodLink RX1 15 Lib.Math.max.name, Cond.static Lib.Math.max.name, Cond.initialized "java/lang/Math", Cond.code Lib.Math.max.name Lib.Math.max.code 2 (some .int), Cond.fieldLink RX1 38 "PictureRows$Picture" "signs" "[I", Cond.fieldLink RX1 44 "PictureRows$Picture" "times" "[I", Cond.fieldLink RX1 48 "PictureRows$Picture" "kinds" "[I", Cond.fieldLink RX1 49 "PictureRows$Picture" "currencySign" "I", Cond.fieldLink RX1 55 "PictureRows$Picture" "signCount" "I", Cond.fieldLink RX1 62 "PictureRows$Picture" "category" "I", Cond.fieldLink RX1 68 "PictureRows$Picture" "digitsAhead" "I", Cond.fieldLink RX1 71 "PictureRows$Picture" "digitsBehind" "I", Cond.fieldLink RX1 81 "PictureRows$Picture" "scale" "I", Cond.constant RX1 84 (196608), Cond.classLink RX1 85 RX0, Cond.instantiable RX0 3, Cond.initialized RX0, Cond.fieldLink RX1 90 "PictureRows$Picture" "effect" "LPictureRows$Effect;", Cond.methodLink RX1 21 yX2_kindsPresent, Cond.instanceMethod yX2_kindsPresent, Cond.selects RX2 yX2_kindsPresent yX2_kindsPresent]
def wsX1_init_r2 : List Cond := [Cond.initialized RX2, Cond.code yX2_kindsPresent cX2_kindsPresent 3 (some .int), Cond.fieldLink RX2 27 "PictureRows$Runs" "size" "I", Cond.fieldLink RX2 21 "PictureRows$Runs" "kinds" "[I", Cond.methodLink RX1 25 yX2_pointRun, Cond.instanceMethod yX2_pointRun, Cond.selects RX2 yX2_pointRun yX2_pointRun, Cond.code yX2_pointRun cX2_pointRun 2 (some .int), Cond.constant RX2 64 (98308), Cond.static yX4_holds, Cond.initialized RX4, Cond.code yX4_holds cX4_holds 2 (some .boolean), Cond.methodLink RX1 32 yJ7_copyOf_59c91, Cond.static yJ7_copyOf_59c91, Cond.initialized RJ7, Cond.code yJ7_copyOf_59c91 cJ7_copyOf_59c91 3 (some (.array .int)), Cond.methodLink RJ7 316 ⟨"[I", "clone", "()Ljava/lang/Object;"⟩, Cond.sameMethod "[I" "java/lang/Object" "clone" "()Ljava/lang/Object;", Cond.native ⟨"java/lang/Object", "clone", "()Ljava/lang/Object;"⟩, Cond.instanceMethod ⟨"java/lang/Object", "clone", "()Ljava/lang/Object;"⟩, Cond.selects "[I" ⟨"[I", "clone", "()Ljava/lang/Object;"⟩ ⟨"java/lang/Object", "clone", "()Ljava/lang/Object;"⟩, Cond.classLink RJ7 317 "[I", Cond.arrayClass .int, Cond.methodLink RJ7 304 Lib.Math.min.name]
def wsX1_init_r3 : List Cond := [Cond.static Lib.Math.min.name, Cond.code Lib.Math.min.name Lib.Math.min.code 2 (some .int), Cond.methodLink RJ7 150 arraycopyName, Cond.native arraycopyName, Cond.static arraycopyName, Cond.initialized "java/lang/System", Cond.methodLink RX1 52 yX2_allSignsCounted, Cond.instanceMethod yX2_allSignsCounted, Cond.selects RX2 yX2_allSignsCounted yX2_allSignsCounted, Cond.code yX2_allSignsCounted cX2_allSignsCounted 3 (some .int), Cond.fieldLink RX2 9 "PictureRows$Runs" "signs" "[I", Cond.fieldLink RX2 15 "PictureRows$Runs" "times" "[I", Cond.static yX4_signsCounted, Cond.code yX4_signsCounted cX4_signsCounted 2 (some .int), Cond.methodLink RX4 146 yX4_widthOf, Cond.static yX4_widthOf, Cond.code yX4_widthOf cX4_widthOf 1 (some .int), Cond.methodLink RX1 58 yX2_categoryOf, Cond.instanceMethod yX2_categoryOf, Cond.selects RX2 yX2_categoryOf yX2_categoryOf, Cond.code yX2_categoryOf cX2_categoryOf 2 (some .int), Cond.constant RX2 93 (-249857), Cond.methodLink RX2 71 yX2_standsAhead, Cond.instanceMethod yX2_standsAhead]
def wsX1_init_r4 : List Cond := [Cond.selects RX2 yX2_standsAhead yX2_standsAhead, Cond.code yX2_standsAhead cX2_standsAhead 4 (some .boolean), Cond.methodLink RX1 65 yX2_digitsIn, Cond.instanceMethod yX2_digitsIn, Cond.selects RX2 yX2_digitsIn yX2_digitsIn, Cond.code yX2_digitsIn cX2_digitsIn 5 (some .int), Cond.methodLink RX2 88 Lib.Math.max.name, Cond.fieldLink RX2 24 "PictureRows$Runs" "digitCounts" "[I", Cond.instanceMethod yX2_countOf, Cond.selects RX2 yX2_countOf yX2_countOf, Cond.code yX2_countOf cX2_countOf 4 (some .int), Cond.methodLink RX1 87 yX0_init, Cond.instanceMethod yX0_init, Cond.code yX0_init cX0_init 2 none, Cond.methodLink RX0 3 objectInit, Cond.fieldLink RX0 9 "PictureRows$Effect" "size" "I", Cond.methodLink RX0 15 Lib.Math.max.name, Cond.fieldLink RX0 21 "PictureRows$Effect" "signs" "[I", Cond.fieldLink RX0 25 "PictureRows$Effect" "times" "[I", Cond.methodLink RX1 94 yX0_add, Cond.instanceMethod yX0_add, Cond.selects RX0 yX0_add yX0_add, Cond.code yX0_add cX0_add 4 none]
def wsX1_init : List Cond := .code yX1_init cX1_init 8 none :: ((wsX1_init_r1 ++ (wsX1_init_r2 ++ (wsX1_init_r3 ++ wsX1_init_r4))) ++ wsX20 ++ wsX10 ++ wsX00)
def wsX1_isNumber : List Cond := .code yX1_isNumber cX1_isNumber 1 (some .boolean) :: ([.fieldLink RX1 62 "PictureRows$Picture" "category" "I"] ++ wsX10)
def wsX1_letterOf : List Cond := .code yX1_letterOf cX1_letterOf 3 (some .int) :: ([.fieldLink RX1 49 "PictureRows$Picture" "currencySign" "I"] ++ wsX10)
def wsX1_characterAt : List Cond := .code yX1_characterAt cX1_characterAt 5 (some .int) :: ([.fieldLink RX1 38 "PictureRows$Picture" "signs" "[I", .fieldLink RX1 44 "PictureRows$Picture" "times" "[I", .static yX4_widthOf, .initialized RX4, .code yX4_widthOf cX4_widthOf 1 (some .int), .methodLink RX1 101 yX1_letterOf, .instanceMethod yX1_letterOf, .selects RX1 yX1_letterOf yX1_letterOf, .initialized RX1, .code yX1_letterOf cX1_letterOf 3 (some .int), .fieldLink RX1 49 "PictureRows$Picture" "currencySign" "I"] ++ wsX10)
def wsX1_countOf : List Cond := .code yX1_countOf cX1_countOf 4 (some .int) :: ([.fieldLink RX1 38 "PictureRows$Picture" "signs" "[I", .fieldLink RX1 44 "PictureRows$Picture" "times" "[I"] ++ wsX10)
def wsX1_countOfKind : List Cond := .code yX1_countOfKind cX1_countOfKind 4 (some .int) :: ([.fieldLink RX1 48 "PictureRows$Picture" "kinds" "[I", .fieldLink RX1 44 "PictureRows$Picture" "times" "[I"] ++ wsX10)
def wsX1_insertionsOf : List Cond := .code yX1_insertionsOf cX1_insertionsOf 2 (some .int) :: ([.methodLink RX1 104 yX1_countOf, .instanceMethod yX1_countOf, .selects RX1 yX1_countOf yX1_countOf, .initialized RX1, .code yX1_countOf cX1_countOf 4 (some .int), .fieldLink RX1 38 "PictureRows$Picture" "signs" "[I", .fieldLink RX1 44 "PictureRows$Picture" "times" "[I", .methodLink RX1 105 yX1_countOfKind, .instanceMethod yX1_countOfKind, .selects RX1 yX1_countOfKind yX1_countOfKind, .code yX1_countOfKind cX1_countOfKind 4 (some .int), .fieldLink RX1 48 "PictureRows$Picture" "kinds" "[I"] ++ wsX10)
def wsX2_init : List Cond := .code yX2_init cX2_init 1 none :: ([.methodLink RX2 3 objectInit, .instanceMethod objectInit, .code objectInit ⟨#[0xb1]⟩ 1 none, .arrayClass .int, .fieldLink RX2 9 "PictureRows$Runs" "signs" "[I", .fieldLink RX2 15 "PictureRows$Runs" "times" "[I", .fieldLink RX2 18 "PictureRows$Runs" "places" "[I", .fieldLink RX2 21 "PictureRows$Runs" "kinds" "[I", .fieldLink RX2 24 "PictureRows$Runs" "digitCounts" "[I", .fieldLink RX2 27 "PictureRows$Runs" "size" "I"] ++ wsX20)
def wsX3_characterAt : List Cond := .code yX3_characterAt cX3_characterAt 2 (some .int) :: ([.fieldLink RX3 15 "PictureRows$Text" "length" "I", .fieldLink RX3 9 "PictureRows$Text" "characters" "[I"] ++ wsX30)
def wsX4_greatOf : List Cond := .code yX4_greatOf cX4_greatOf 1 (some .int) :: ([])
def wsJ0_isLatin1_aae02 : List Cond := .code yJ0_isLatin1_aae02 cJ0_isLatin1_aae02 1 (some .boolean) :: ([.fieldLink RJ0 38 "java/lang/String" "COMPACT_STRINGS" "Z", .fieldLink RJ0 15 "java/lang/String" "coder" "B"])
def wsJ0_coder_7d493 : List Cond := .code yJ0_coder_7d493 cJ0_coder_7d493 1 (some .byte) :: ([.fieldLink RJ0 38 "java/lang/String" "COMPACT_STRINGS" "Z", .fieldLink RJ0 15 "java/lang/String" "coder" "B"])
def wsJ0_length_8abf5 : List Cond := .code yJ0_length_8abf5 cJ0_length_8abf5 1 (some .int) :: ([.fieldLink RJ0 9 "java/lang/String" "value" "[B", .methodLink RJ0 335 yJ0_coder_7d493, .instanceMethod yJ0_coder_7d493, .selects RJ0 yJ0_coder_7d493 yJ0_coder_7d493, .initialized RJ0, .code yJ0_coder_7d493 cJ0_coder_7d493 1 (some .byte), .fieldLink RJ0 38 "java/lang/String" "COMPACT_STRINGS" "Z", .fieldLink RJ0 15 "java/lang/String" "coder" "B"])
def wsJ1_canEncode_9a6ad : List Cond := .code yJ1_canEncode_9a6ad cJ1_canEncode_9a6ad 1 (some .boolean) :: ([])
def wsJ1_indexOfChar_4cfef : List Cond := .code yJ1_indexOfChar_4cfef cJ1_indexOfChar_4cfef 6 (some .int) :: ([])
def wsJ1_indexOf_4cfef : List Cond := .code yJ1_indexOf_4cfef cJ1_indexOf_4cfef 4 (some .int) :: ([.methodLink RJ1 92 Lib.Math.max.name, .static Lib.Math.max.name, .initialized "java/lang/Math", .code Lib.Math.max.name Lib.Math.max.code 2 (some .int), .methodLink RJ1 38 Lib.Math.min.name, .static Lib.Math.min.name, .code Lib.Math.min.name Lib.Math.min.code 2 (some .int), .methodLink RJ1 88 yJ1_canEncode_9a6ad, .static yJ1_canEncode_9a6ad, .initialized RJ1, .code yJ1_canEncode_9a6ad cJ1_canEncode_9a6ad 1 (some .boolean), .methodLink RJ1 95 yJ1_indexOfChar_4cfef, .static yJ1_indexOfChar_4cfef, .code yJ1_indexOfChar_4cfef cJ1_indexOfChar_4cfef 6 (some .int)])
def wsJ2_length_9d52b : List Cond := .code yJ2_length_9d52b cJ2_length_9d52b 1 (some .int) :: ([])
def wsJ3_checkFromToIndex_8c36e : List Cond := .code yJ3_checkFromToIndex_8c36e cJ3_checkFromToIndex_8c36e 4 (some .int) :: ([])
def wsJ0_checkBoundsBeginEnd_23922 : List Cond := .code yJ0_checkBoundsBeginEnd_23922 cJ0_checkBoundsBeginEnd_23922 3 none :: ([.fieldLink RJ0 1053 "jdk/internal/util/Preconditions" "SIOOBE_FORMATTER" "Ljava/util/function/BiFunction;", .methodLink RJ0 1062 yJ3_checkFromToIndex_8c36e, .static yJ3_checkFromToIndex_8c36e, .initialized RJ3, .code yJ3_checkFromToIndex_8c36e cJ3_checkFromToIndex_8c36e 4 (some .int)])
def wsJ2_checkBoundsBeginEnd_d044e : List Cond := .code yJ2_checkBoundsBeginEnd_d044e cJ2_checkBoundsBeginEnd_d044e 3 none :: ([.methodLink RJ2 48 yJ2_length_9d52b, .static yJ2_length_9d52b, .initialized RJ2, .code yJ2_length_9d52b cJ2_length_9d52b 1 (some .int), .methodLink RJ2 241 yJ0_checkBoundsBeginEnd_23922, .static yJ0_checkBoundsBeginEnd_23922, .initialized RJ0, .code yJ0_checkBoundsBeginEnd_23922 cJ0_checkBoundsBeginEnd_23922 3 none, .fieldLink RJ0 1053 "jdk/internal/util/Preconditions" "SIOOBE_FORMATTER" "Ljava/util/function/BiFunction;", .methodLink RJ0 1062 yJ3_checkFromToIndex_8c36e, .static yJ3_checkFromToIndex_8c36e, .initialized RJ3, .code yJ3_checkFromToIndex_8c36e cJ3_checkFromToIndex_8c36e 4 (some .int)])
def wsJ2_getChar_3b067 : List Cond := .code yJ2_getChar_3b067 cJ2_getChar_3b067 2 (some .char) :: ([.fieldLink RJ2 44 "java/lang/StringUTF16" "$assertionsDisabled" "Z", .fieldLink RJ2 59 "java/lang/StringUTF16" "HI_BYTE_SHIFT" "I", .fieldLink RJ2 63 "java/lang/StringUTF16" "LO_BYTE_SHIFT" "I", .methodLink RJ2 48 yJ2_length_9d52b, .static yJ2_length_9d52b, .initialized RJ2, .code yJ2_length_9d52b cJ2_length_9d52b 1 (some .int)])
def wsJ2_indexOfCharUnsafe_4cfef : List Cond := .code yJ2_indexOfCharUnsafe_4cfef cJ2_indexOfCharUnsafe_4cfef 5 (some .int) :: ([.methodLink RJ2 71 yJ2_getChar_3b067, .static yJ2_getChar_3b067, .initialized RJ2, .code yJ2_getChar_3b067 cJ2_getChar_3b067 2 (some .char), .fieldLink RJ2 44 "java/lang/StringUTF16" "$assertionsDisabled" "Z", .fieldLink RJ2 59 "java/lang/StringUTF16" "HI_BYTE_SHIFT" "I", .fieldLink RJ2 63 "java/lang/StringUTF16" "LO_BYTE_SHIFT" "I", .methodLink RJ2 48 yJ2_length_9d52b, .static yJ2_length_9d52b, .code yJ2_length_9d52b cJ2_length_9d52b 1 (some .int)])
def wsJ2_indexOfChar_4cfef_r1 : List Cond := [Cond.methodLink RJ2 96 yJ2_checkBoundsBeginEnd_d044e, Cond.static yJ2_checkBoundsBeginEnd_d044e, Cond.initialized RJ2, Cond.code yJ2_checkBoundsBeginEnd_d044e cJ2_checkBoundsBeginEnd_d044e 3 none, Cond.methodLink RJ2 48 yJ2_length_9d52b, Cond.static yJ2_length_9d52b, Cond.code yJ2_length_9d52b cJ2_length_9d52b 1 (some .int), Cond.methodLink RJ2 241 yJ0_checkBoundsBeginEnd_23922, Cond.static yJ0_checkBoundsBeginEnd_23922, Cond.initialized RJ0, Cond.code yJ0_checkBoundsBeginEnd_23922 cJ0_checkBoundsBeginEnd_23922 3 none, Cond.fieldLink RJ0 1053 "jdk/internal/util/Preconditions" "SIOOBE_FORMATTER" "Ljava/util/function/BiFunction;", Cond.methodLink RJ0 1062 yJ3_checkFromToIndex_8c36e, Cond.static yJ3_checkFromToIndex_8c36e, Cond.initialized RJ3, Cond.code yJ3_checkFromToIndex_8c36e cJ3_checkFromToIndex_8c36e 4 (some .int), Cond.methodLink RJ2 244 yJ2_indexOfCharUnsafe_4cfef, Cond.static yJ2_indexOfCharUnsafe_4cfef, Cond.code yJ2_indexOfCharUnsafe_4cfef cJ2_indexOfCharUnsafe_4cfef 5 (some .int), Cond.methodLink RJ2 71 yJ2_getChar_3b067, Cond.static yJ2_getChar_3b067, Cond.code yJ2_getChar_3b067 cJ2_getChar_3b067 2 (some .char), Cond.fieldLink RJ2 44 "java/lang/StringUTF16" "$assertionsDisabled" "Z", Cond.fieldLink RJ2 59 "java/lang/StringUTF16" "HI_BYTE_SHIFT" "I"]
def wsJ2_indexOfChar_4cfef_r2 : List Cond := [Cond.fieldLink RJ2 63 "java/lang/StringUTF16" "LO_BYTE_SHIFT" "I"]
def wsJ2_indexOfChar_4cfef : List Cond := .code yJ2_indexOfChar_4cfef cJ2_indexOfChar_4cfef 4 (some .int) :: ((wsJ2_indexOfChar_4cfef_r1 ++ wsJ2_indexOfChar_4cfef_r2))
def wsJ11_isValidCodePoint_9a6ad : List Cond := .code yJ11_isValidCodePoint_9a6ad cJ11_isValidCodePoint_9a6ad 2 (some .boolean) :: ([])
def wsJ11_highSurrogate_5068e : List Cond := .code yJ11_highSurrogate_5068e cJ11_highSurrogate_5068e 1 (some .char) :: ([.constant RJ11 110 (55232)])
def wsJ11_lowSurrogate_5068e : List Cond := .code yJ11_lowSurrogate_5068e cJ11_lowSurrogate_5068e 1 (some .char) :: ([.constant RJ11 76 (56320)])
def wsJ2_indexOfSupplementary_4cfef_r1 : List Cond := [Cond.methodLink RJ2 164 yJ11_isValidCodePoint_9a6ad, Cond.static yJ11_isValidCodePoint_9a6ad, Cond.initialized RJ11, Cond.code yJ11_isValidCodePoint_9a6ad cJ11_isValidCodePoint_9a6ad 2 (some .boolean), Cond.methodLink RJ2 157 yJ11_highSurrogate_5068e, Cond.static yJ11_highSurrogate_5068e, Cond.code yJ11_highSurrogate_5068e cJ11_highSurrogate_5068e 1 (some .char), Cond.constant RJ11 110 (55232), Cond.methodLink RJ2 161 yJ11_lowSurrogate_5068e, Cond.static yJ11_lowSurrogate_5068e, Cond.code yJ11_lowSurrogate_5068e cJ11_lowSurrogate_5068e 1 (some .char), Cond.constant RJ11 76 (56320), Cond.methodLink RJ2 96 yJ2_checkBoundsBeginEnd_d044e, Cond.static yJ2_checkBoundsBeginEnd_d044e, Cond.initialized RJ2, Cond.code yJ2_checkBoundsBeginEnd_d044e cJ2_checkBoundsBeginEnd_d044e 3 none, Cond.methodLink RJ2 48 yJ2_length_9d52b, Cond.static yJ2_length_9d52b, Cond.code yJ2_length_9d52b cJ2_length_9d52b 1 (some .int), Cond.methodLink RJ2 241 yJ0_checkBoundsBeginEnd_23922, Cond.static yJ0_checkBoundsBeginEnd_23922, Cond.initialized RJ0, Cond.code yJ0_checkBoundsBeginEnd_23922 cJ0_checkBoundsBeginEnd_23922 3 none, Cond.fieldLink RJ0 1053 "jdk/internal/util/Preconditions" "SIOOBE_FORMATTER" "Ljava/util/function/BiFunction;"]
def wsJ2_indexOfSupplementary_4cfef_r2 : List Cond := [Cond.methodLink RJ0 1062 yJ3_checkFromToIndex_8c36e, Cond.static yJ3_checkFromToIndex_8c36e, Cond.initialized RJ3, Cond.code yJ3_checkFromToIndex_8c36e cJ3_checkFromToIndex_8c36e 4 (some .int), Cond.methodLink RJ2 71 yJ2_getChar_3b067, Cond.static yJ2_getChar_3b067, Cond.code yJ2_getChar_3b067 cJ2_getChar_3b067 2 (some .char), Cond.fieldLink RJ2 44 "java/lang/StringUTF16" "$assertionsDisabled" "Z", Cond.fieldLink RJ2 59 "java/lang/StringUTF16" "HI_BYTE_SHIFT" "I", Cond.fieldLink RJ2 63 "java/lang/StringUTF16" "LO_BYTE_SHIFT" "I"]
def wsJ2_indexOfSupplementary_4cfef : List Cond := .code yJ2_indexOfSupplementary_4cfef cJ2_indexOfSupplementary_4cfef 7 (some .int) :: ((wsJ2_indexOfSupplementary_4cfef_r1 ++ wsJ2_indexOfSupplementary_4cfef_r2))
def wsJ2_indexOf_4cfef_r1 : List Cond := [Cond.methodLink RJ2 224 Lib.Math.max.name, Cond.static Lib.Math.max.name, Cond.initialized "java/lang/Math", Cond.code Lib.Math.max.name Lib.Math.max.code 2 (some .int), Cond.methodLink RJ2 183 Lib.Math.min.name, Cond.static Lib.Math.min.name, Cond.code Lib.Math.min.name Lib.Math.min.code 2 (some .int), Cond.constant RJ2 227 (65536), Cond.methodLink RJ2 228 yJ2_indexOfChar_4cfef, Cond.static yJ2_indexOfChar_4cfef, Cond.initialized RJ2, Cond.code yJ2_indexOfChar_4cfef cJ2_indexOfChar_4cfef 4 (some .int), Cond.methodLink RJ2 96 yJ2_checkBoundsBeginEnd_d044e, Cond.static yJ2_checkBoundsBeginEnd_d044e, Cond.code yJ2_checkBoundsBeginEnd_d044e cJ2_checkBoundsBeginEnd_d044e 3 none, Cond.methodLink RJ2 48 yJ2_length_9d52b, Cond.static yJ2_length_9d52b, Cond.code yJ2_length_9d52b cJ2_length_9d52b 1 (some .int), Cond.methodLink RJ2 241 yJ0_checkBoundsBeginEnd_23922, Cond.static yJ0_checkBoundsBeginEnd_23922, Cond.initialized RJ0, Cond.code yJ0_checkBoundsBeginEnd_23922 cJ0_checkBoundsBeginEnd_23922 3 none, Cond.fieldLink RJ0 1053 "jdk/internal/util/Preconditions" "SIOOBE_FORMATTER" "Ljava/util/function/BiFunction;", Cond.methodLink RJ0 1062 yJ3_checkFromToIndex_8c36e]
def wsJ2_indexOf_4cfef_r2 : List Cond := [Cond.static yJ3_checkFromToIndex_8c36e, Cond.initialized RJ3, Cond.code yJ3_checkFromToIndex_8c36e cJ3_checkFromToIndex_8c36e 4 (some .int), Cond.methodLink RJ2 244 yJ2_indexOfCharUnsafe_4cfef, Cond.static yJ2_indexOfCharUnsafe_4cfef, Cond.code yJ2_indexOfCharUnsafe_4cfef cJ2_indexOfCharUnsafe_4cfef 5 (some .int), Cond.methodLink RJ2 71 yJ2_getChar_3b067, Cond.static yJ2_getChar_3b067, Cond.code yJ2_getChar_3b067 cJ2_getChar_3b067 2 (some .char), Cond.fieldLink RJ2 44 "java/lang/StringUTF16" "$assertionsDisabled" "Z", Cond.fieldLink RJ2 59 "java/lang/StringUTF16" "HI_BYTE_SHIFT" "I", Cond.fieldLink RJ2 63 "java/lang/StringUTF16" "LO_BYTE_SHIFT" "I", Cond.methodLink RJ2 232 yJ2_indexOfSupplementary_4cfef, Cond.static yJ2_indexOfSupplementary_4cfef, Cond.code yJ2_indexOfSupplementary_4cfef cJ2_indexOfSupplementary_4cfef 7 (some .int), Cond.methodLink RJ2 164 yJ11_isValidCodePoint_9a6ad, Cond.static yJ11_isValidCodePoint_9a6ad, Cond.initialized RJ11, Cond.code yJ11_isValidCodePoint_9a6ad cJ11_isValidCodePoint_9a6ad 2 (some .boolean), Cond.methodLink RJ2 157 yJ11_highSurrogate_5068e, Cond.static yJ11_highSurrogate_5068e, Cond.code yJ11_highSurrogate_5068e cJ11_highSurrogate_5068e 1 (some .char), Cond.constant RJ11 110 (55232), Cond.methodLink RJ2 161 yJ11_lowSurrogate_5068e]
def wsJ2_indexOf_4cfef_r3 : List Cond := [Cond.static yJ11_lowSurrogate_5068e, Cond.code yJ11_lowSurrogate_5068e cJ11_lowSurrogate_5068e 1 (some .char), Cond.constant RJ11 76 (56320)]
def wsJ2_indexOf_4cfef : List Cond := .code yJ2_indexOf_4cfef cJ2_indexOf_4cfef 4 (some .int) :: ((wsJ2_indexOf_4cfef_r1 ++ (wsJ2_indexOf_4cfef_r2 ++ wsJ2_indexOf_4cfef_r3)))
def wsJ0_indexOf_7cf53_r1 : List Cond := [Cond.fieldLink RJ0 9 "java/lang/String" "value" "[B", Cond.methodLink RJ0 492 yJ0_isLatin1_aae02, Cond.instanceMethod yJ0_isLatin1_aae02, Cond.selects RJ0 yJ0_isLatin1_aae02 yJ0_isLatin1_aae02, Cond.initialized RJ0, Cond.code yJ0_isLatin1_aae02 cJ0_isLatin1_aae02 1 (some .boolean), Cond.fieldLink RJ0 38 "java/lang/String" "COMPACT_STRINGS" "Z", Cond.fieldLink RJ0 15 "java/lang/String" "coder" "B", Cond.methodLink RJ0 505 yJ0_length_8abf5, Cond.instanceMethod yJ0_length_8abf5, Cond.selects RJ0 yJ0_length_8abf5 yJ0_length_8abf5, Cond.code yJ0_length_8abf5 cJ0_length_8abf5 1 (some .int), Cond.methodLink RJ0 335 yJ0_coder_7d493, Cond.instanceMethod yJ0_coder_7d493, Cond.selects RJ0 yJ0_coder_7d493 yJ0_coder_7d493, Cond.code yJ0_coder_7d493 cJ0_coder_7d493 1 (some .byte), Cond.methodLink RJ0 637 yJ1_indexOf_4cfef, Cond.static yJ1_indexOf_4cfef, Cond.initialized RJ1, Cond.code yJ1_indexOf_4cfef cJ1_indexOf_4cfef 4 (some .int), Cond.methodLink RJ1 92 Lib.Math.max.name, Cond.static Lib.Math.max.name, Cond.initialized "java/lang/Math", Cond.code Lib.Math.max.name Lib.Math.max.code 2 (some .int)]
def wsJ0_indexOf_7cf53_r2 : List Cond := [Cond.methodLink RJ1 38 Lib.Math.min.name, Cond.static Lib.Math.min.name, Cond.code Lib.Math.min.name Lib.Math.min.code 2 (some .int), Cond.methodLink RJ1 88 yJ1_canEncode_9a6ad, Cond.static yJ1_canEncode_9a6ad, Cond.code yJ1_canEncode_9a6ad cJ1_canEncode_9a6ad 1 (some .boolean), Cond.methodLink RJ1 95 yJ1_indexOfChar_4cfef, Cond.static yJ1_indexOfChar_4cfef, Cond.code yJ1_indexOfChar_4cfef cJ1_indexOfChar_4cfef 6 (some .int), Cond.methodLink RJ0 640 yJ2_indexOf_4cfef, Cond.static yJ2_indexOf_4cfef, Cond.initialized RJ2, Cond.code yJ2_indexOf_4cfef cJ2_indexOf_4cfef 4 (some .int), Cond.methodLink RJ2 224 Lib.Math.max.name, Cond.methodLink RJ2 183 Lib.Math.min.name, Cond.constant RJ2 227 (65536), Cond.methodLink RJ2 228 yJ2_indexOfChar_4cfef, Cond.static yJ2_indexOfChar_4cfef, Cond.code yJ2_indexOfChar_4cfef cJ2_indexOfChar_4cfef 4 (some .int), Cond.methodLink RJ2 96 yJ2_checkBoundsBeginEnd_d044e, Cond.static yJ2_checkBoundsBeginEnd_d044e, Cond.code yJ2_checkBoundsBeginEnd_d044e cJ2_checkBoundsBeginEnd_d044e 3 none, Cond.methodLink RJ2 48 yJ2_length_9d52b, Cond.static yJ2_length_9d52b]
def wsJ0_indexOf_7cf53_r3 : List Cond := [Cond.code yJ2_length_9d52b cJ2_length_9d52b 1 (some .int), Cond.methodLink RJ2 241 yJ0_checkBoundsBeginEnd_23922, Cond.static yJ0_checkBoundsBeginEnd_23922, Cond.code yJ0_checkBoundsBeginEnd_23922 cJ0_checkBoundsBeginEnd_23922 3 none, Cond.fieldLink RJ0 1053 "jdk/internal/util/Preconditions" "SIOOBE_FORMATTER" "Ljava/util/function/BiFunction;", Cond.methodLink RJ0 1062 yJ3_checkFromToIndex_8c36e, Cond.static yJ3_checkFromToIndex_8c36e, Cond.initialized RJ3, Cond.code yJ3_checkFromToIndex_8c36e cJ3_checkFromToIndex_8c36e 4 (some .int), Cond.methodLink RJ2 244 yJ2_indexOfCharUnsafe_4cfef, Cond.static yJ2_indexOfCharUnsafe_4cfef, Cond.code yJ2_indexOfCharUnsafe_4cfef cJ2_indexOfCharUnsafe_4cfef 5 (some .int), Cond.methodLink RJ2 71 yJ2_getChar_3b067, Cond.static yJ2_getChar_3b067, Cond.code yJ2_getChar_3b067 cJ2_getChar_3b067 2 (some .char), Cond.fieldLink RJ2 44 "java/lang/StringUTF16" "$assertionsDisabled" "Z", Cond.fieldLink RJ2 59 "java/lang/StringUTF16" "HI_BYTE_SHIFT" "I", Cond.fieldLink RJ2 63 "java/lang/StringUTF16" "LO_BYTE_SHIFT" "I", Cond.methodLink RJ2 232 yJ2_indexOfSupplementary_4cfef, Cond.static yJ2_indexOfSupplementary_4cfef, Cond.code yJ2_indexOfSupplementary_4cfef cJ2_indexOfSupplementary_4cfef 7 (some .int), Cond.methodLink RJ2 164 yJ11_isValidCodePoint_9a6ad, Cond.static yJ11_isValidCodePoint_9a6ad, Cond.initialized RJ11]
def wsJ0_indexOf_7cf53_r4 : List Cond := [Cond.code yJ11_isValidCodePoint_9a6ad cJ11_isValidCodePoint_9a6ad 2 (some .boolean), Cond.methodLink RJ2 157 yJ11_highSurrogate_5068e, Cond.static yJ11_highSurrogate_5068e, Cond.code yJ11_highSurrogate_5068e cJ11_highSurrogate_5068e 1 (some .char), Cond.constant RJ11 110 (55232), Cond.methodLink RJ2 161 yJ11_lowSurrogate_5068e, Cond.static yJ11_lowSurrogate_5068e, Cond.code yJ11_lowSurrogate_5068e cJ11_lowSurrogate_5068e 1 (some .char), Cond.constant RJ11 76 (56320)]
def wsJ0_indexOf_7cf53 : List Cond := .code yJ0_indexOf_7cf53 cJ0_indexOf_7cf53 3 (some .int) :: ((wsJ0_indexOf_7cf53_r1 ++ (wsJ0_indexOf_7cf53_r2 ++ (wsJ0_indexOf_7cf53_r3 ++ wsJ0_indexOf_7cf53_r4))))
def wsJ0_indexOf_0f7a4_r1 : List Cond := [Cond.methodLink RJ0 633 yJ0_indexOf_7cf53, Cond.instanceMethod yJ0_indexOf_7cf53, Cond.selects RJ0 yJ0_indexOf_7cf53 yJ0_indexOf_7cf53, Cond.initialized RJ0, Cond.code yJ0_indexOf_7cf53 cJ0_indexOf_7cf53 3 (some .int), Cond.fieldLink RJ0 9 "java/lang/String" "value" "[B", Cond.methodLink RJ0 492 yJ0_isLatin1_aae02, Cond.instanceMethod yJ0_isLatin1_aae02, Cond.selects RJ0 yJ0_isLatin1_aae02 yJ0_isLatin1_aae02, Cond.code yJ0_isLatin1_aae02 cJ0_isLatin1_aae02 1 (some .boolean), Cond.fieldLink RJ0 38 "java/lang/String" "COMPACT_STRINGS" "Z", Cond.fieldLink RJ0 15 "java/lang/String" "coder" "B", Cond.methodLink RJ0 505 yJ0_length_8abf5, Cond.instanceMethod yJ0_length_8abf5, Cond.selects RJ0 yJ0_length_8abf5 yJ0_length_8abf5, Cond.code yJ0_length_8abf5 cJ0_length_8abf5 1 (some .int), Cond.methodLink RJ0 335 yJ0_coder_7d493, Cond.instanceMethod yJ0_coder_7d493, Cond.selects RJ0 yJ0_coder_7d493 yJ0_coder_7d493, Cond.code yJ0_coder_7d493 cJ0_coder_7d493 1 (some .byte), Cond.methodLink RJ0 637 yJ1_indexOf_4cfef, Cond.static yJ1_indexOf_4cfef, Cond.initialized RJ1, Cond.code yJ1_indexOf_4cfef cJ1_indexOf_4cfef 4 (some .int)]
def wsJ0_indexOf_0f7a4_r2 : List Cond := [Cond.methodLink RJ1 92 Lib.Math.max.name, Cond.static Lib.Math.max.name, Cond.initialized "java/lang/Math", Cond.code Lib.Math.max.name Lib.Math.max.code 2 (some .int), Cond.methodLink RJ1 38 Lib.Math.min.name, Cond.static Lib.Math.min.name, Cond.code Lib.Math.min.name Lib.Math.min.code 2 (some .int), Cond.methodLink RJ1 88 yJ1_canEncode_9a6ad, Cond.static yJ1_canEncode_9a6ad, Cond.code yJ1_canEncode_9a6ad cJ1_canEncode_9a6ad 1 (some .boolean), Cond.methodLink RJ1 95 yJ1_indexOfChar_4cfef, Cond.static yJ1_indexOfChar_4cfef, Cond.code yJ1_indexOfChar_4cfef cJ1_indexOfChar_4cfef 6 (some .int), Cond.methodLink RJ0 640 yJ2_indexOf_4cfef, Cond.static yJ2_indexOf_4cfef, Cond.initialized RJ2, Cond.code yJ2_indexOf_4cfef cJ2_indexOf_4cfef 4 (some .int), Cond.methodLink RJ2 224 Lib.Math.max.name, Cond.methodLink RJ2 183 Lib.Math.min.name, Cond.constant RJ2 227 (65536), Cond.methodLink RJ2 228 yJ2_indexOfChar_4cfef, Cond.static yJ2_indexOfChar_4cfef, Cond.code yJ2_indexOfChar_4cfef cJ2_indexOfChar_4cfef 4 (some .int), Cond.methodLink RJ2 96 yJ2_checkBoundsBeginEnd_d044e]
def wsJ0_indexOf_0f7a4_r3 : List Cond := [Cond.static yJ2_checkBoundsBeginEnd_d044e, Cond.code yJ2_checkBoundsBeginEnd_d044e cJ2_checkBoundsBeginEnd_d044e 3 none, Cond.methodLink RJ2 48 yJ2_length_9d52b, Cond.static yJ2_length_9d52b, Cond.code yJ2_length_9d52b cJ2_length_9d52b 1 (some .int), Cond.methodLink RJ2 241 yJ0_checkBoundsBeginEnd_23922, Cond.static yJ0_checkBoundsBeginEnd_23922, Cond.code yJ0_checkBoundsBeginEnd_23922 cJ0_checkBoundsBeginEnd_23922 3 none, Cond.fieldLink RJ0 1053 "jdk/internal/util/Preconditions" "SIOOBE_FORMATTER" "Ljava/util/function/BiFunction;", Cond.methodLink RJ0 1062 yJ3_checkFromToIndex_8c36e, Cond.static yJ3_checkFromToIndex_8c36e, Cond.initialized RJ3, Cond.code yJ3_checkFromToIndex_8c36e cJ3_checkFromToIndex_8c36e 4 (some .int), Cond.methodLink RJ2 244 yJ2_indexOfCharUnsafe_4cfef, Cond.static yJ2_indexOfCharUnsafe_4cfef, Cond.code yJ2_indexOfCharUnsafe_4cfef cJ2_indexOfCharUnsafe_4cfef 5 (some .int), Cond.methodLink RJ2 71 yJ2_getChar_3b067, Cond.static yJ2_getChar_3b067, Cond.code yJ2_getChar_3b067 cJ2_getChar_3b067 2 (some .char), Cond.fieldLink RJ2 44 "java/lang/StringUTF16" "$assertionsDisabled" "Z", Cond.fieldLink RJ2 59 "java/lang/StringUTF16" "HI_BYTE_SHIFT" "I", Cond.fieldLink RJ2 63 "java/lang/StringUTF16" "LO_BYTE_SHIFT" "I", Cond.methodLink RJ2 232 yJ2_indexOfSupplementary_4cfef, Cond.static yJ2_indexOfSupplementary_4cfef]
def wsJ0_indexOf_0f7a4_r4 : List Cond := [Cond.code yJ2_indexOfSupplementary_4cfef cJ2_indexOfSupplementary_4cfef 7 (some .int), Cond.methodLink RJ2 164 yJ11_isValidCodePoint_9a6ad, Cond.static yJ11_isValidCodePoint_9a6ad, Cond.initialized RJ11, Cond.code yJ11_isValidCodePoint_9a6ad cJ11_isValidCodePoint_9a6ad 2 (some .boolean), Cond.methodLink RJ2 157 yJ11_highSurrogate_5068e, Cond.static yJ11_highSurrogate_5068e, Cond.code yJ11_highSurrogate_5068e cJ11_highSurrogate_5068e 1 (some .char), Cond.constant RJ11 110 (55232), Cond.methodLink RJ2 161 yJ11_lowSurrogate_5068e, Cond.static yJ11_lowSurrogate_5068e, Cond.code yJ11_lowSurrogate_5068e cJ11_lowSurrogate_5068e 1 (some .char), Cond.constant RJ11 76 (56320)]
def wsJ0_indexOf_0f7a4 : List Cond := .code yJ0_indexOf_0f7a4 cJ0_indexOf_0f7a4 2 (some .int) :: ((wsJ0_indexOf_0f7a4_r1 ++ (wsJ0_indexOf_0f7a4_r2 ++ (wsJ0_indexOf_0f7a4_r3 ++ wsJ0_indexOf_0f7a4_r4))))
def wsX3_signAt_r1 : List Cond := [Cond.methodLink RX3 19 yX3_characterAt, Cond.instanceMethod yX3_characterAt, Cond.selects RX3 yX3_characterAt yX3_characterAt, Cond.initialized RX3, Cond.code yX3_characterAt cX3_characterAt 2 (some .int), Cond.fieldLink RX3 15 "PictureRows$Text" "length" "I", Cond.fieldLink RX3 9 "PictureRows$Text" "characters" "[I", Cond.static yX4_greatOf, Cond.initialized RX4, Cond.code yX4_greatOf cX4_greatOf 1 (some .int), Cond.methodLink RX3 28 yJ0_indexOf_0f7a4, Cond.instanceMethod yJ0_indexOf_0f7a4, Cond.selects RJ0 yJ0_indexOf_0f7a4 yJ0_indexOf_0f7a4, Cond.initialized RJ0, Cond.code yJ0_indexOf_0f7a4 cJ0_indexOf_0f7a4 2 (some .int), Cond.methodLink RJ0 633 yJ0_indexOf_7cf53, Cond.instanceMethod yJ0_indexOf_7cf53, Cond.selects RJ0 yJ0_indexOf_7cf53 yJ0_indexOf_7cf53, Cond.code yJ0_indexOf_7cf53 cJ0_indexOf_7cf53 3 (some .int), Cond.fieldLink RJ0 9 "java/lang/String" "value" "[B", Cond.methodLink RJ0 492 yJ0_isLatin1_aae02, Cond.instanceMethod yJ0_isLatin1_aae02, Cond.selects RJ0 yJ0_isLatin1_aae02 yJ0_isLatin1_aae02, Cond.code yJ0_isLatin1_aae02 cJ0_isLatin1_aae02 1 (some .boolean)]
def wsX3_signAt_r2 : List Cond := [Cond.fieldLink RJ0 38 "java/lang/String" "COMPACT_STRINGS" "Z", Cond.fieldLink RJ0 15 "java/lang/String" "coder" "B", Cond.methodLink RJ0 505 yJ0_length_8abf5, Cond.instanceMethod yJ0_length_8abf5, Cond.selects RJ0 yJ0_length_8abf5 yJ0_length_8abf5, Cond.code yJ0_length_8abf5 cJ0_length_8abf5 1 (some .int), Cond.methodLink RJ0 335 yJ0_coder_7d493, Cond.instanceMethod yJ0_coder_7d493, Cond.selects RJ0 yJ0_coder_7d493 yJ0_coder_7d493, Cond.code yJ0_coder_7d493 cJ0_coder_7d493 1 (some .byte), Cond.methodLink RJ0 637 yJ1_indexOf_4cfef, Cond.static yJ1_indexOf_4cfef, Cond.initialized RJ1, Cond.code yJ1_indexOf_4cfef cJ1_indexOf_4cfef 4 (some .int), Cond.methodLink RJ1 92 Lib.Math.max.name, Cond.static Lib.Math.max.name, Cond.initialized "java/lang/Math", Cond.code Lib.Math.max.name Lib.Math.max.code 2 (some .int), Cond.methodLink RJ1 38 Lib.Math.min.name, Cond.static Lib.Math.min.name, Cond.code Lib.Math.min.name Lib.Math.min.code 2 (some .int), Cond.methodLink RJ1 88 yJ1_canEncode_9a6ad, Cond.static yJ1_canEncode_9a6ad, Cond.code yJ1_canEncode_9a6ad cJ1_canEncode_9a6ad 1 (some .boolean)]
def wsX3_signAt_r3 : List Cond := [Cond.methodLink RJ1 95 yJ1_indexOfChar_4cfef, Cond.static yJ1_indexOfChar_4cfef, Cond.code yJ1_indexOfChar_4cfef cJ1_indexOfChar_4cfef 6 (some .int), Cond.methodLink RJ0 640 yJ2_indexOf_4cfef, Cond.static yJ2_indexOf_4cfef, Cond.initialized RJ2, Cond.code yJ2_indexOf_4cfef cJ2_indexOf_4cfef 4 (some .int), Cond.methodLink RJ2 224 Lib.Math.max.name, Cond.methodLink RJ2 183 Lib.Math.min.name, Cond.constant RJ2 227 (65536), Cond.methodLink RJ2 228 yJ2_indexOfChar_4cfef, Cond.static yJ2_indexOfChar_4cfef, Cond.code yJ2_indexOfChar_4cfef cJ2_indexOfChar_4cfef 4 (some .int), Cond.methodLink RJ2 96 yJ2_checkBoundsBeginEnd_d044e, Cond.static yJ2_checkBoundsBeginEnd_d044e, Cond.code yJ2_checkBoundsBeginEnd_d044e cJ2_checkBoundsBeginEnd_d044e 3 none, Cond.methodLink RJ2 48 yJ2_length_9d52b, Cond.static yJ2_length_9d52b, Cond.code yJ2_length_9d52b cJ2_length_9d52b 1 (some .int), Cond.methodLink RJ2 241 yJ0_checkBoundsBeginEnd_23922, Cond.static yJ0_checkBoundsBeginEnd_23922, Cond.code yJ0_checkBoundsBeginEnd_23922 cJ0_checkBoundsBeginEnd_23922 3 none, Cond.fieldLink RJ0 1053 "jdk/internal/util/Preconditions" "SIOOBE_FORMATTER" "Ljava/util/function/BiFunction;", Cond.methodLink RJ0 1062 yJ3_checkFromToIndex_8c36e]
def wsX3_signAt_r4 : List Cond := [Cond.static yJ3_checkFromToIndex_8c36e, Cond.initialized RJ3, Cond.code yJ3_checkFromToIndex_8c36e cJ3_checkFromToIndex_8c36e 4 (some .int), Cond.methodLink RJ2 244 yJ2_indexOfCharUnsafe_4cfef, Cond.static yJ2_indexOfCharUnsafe_4cfef, Cond.code yJ2_indexOfCharUnsafe_4cfef cJ2_indexOfCharUnsafe_4cfef 5 (some .int), Cond.methodLink RJ2 71 yJ2_getChar_3b067, Cond.static yJ2_getChar_3b067, Cond.code yJ2_getChar_3b067 cJ2_getChar_3b067 2 (some .char), Cond.fieldLink RJ2 44 "java/lang/StringUTF16" "$assertionsDisabled" "Z", Cond.fieldLink RJ2 59 "java/lang/StringUTF16" "HI_BYTE_SHIFT" "I", Cond.fieldLink RJ2 63 "java/lang/StringUTF16" "LO_BYTE_SHIFT" "I", Cond.methodLink RJ2 232 yJ2_indexOfSupplementary_4cfef, Cond.static yJ2_indexOfSupplementary_4cfef, Cond.code yJ2_indexOfSupplementary_4cfef cJ2_indexOfSupplementary_4cfef 7 (some .int), Cond.methodLink RJ2 164 yJ11_isValidCodePoint_9a6ad, Cond.static yJ11_isValidCodePoint_9a6ad, Cond.initialized RJ11, Cond.code yJ11_isValidCodePoint_9a6ad cJ11_isValidCodePoint_9a6ad 2 (some .boolean), Cond.methodLink RJ2 157 yJ11_highSurrogate_5068e, Cond.static yJ11_highSurrogate_5068e, Cond.code yJ11_highSurrogate_5068e cJ11_highSurrogate_5068e 1 (some .char), Cond.constant RJ11 110 (55232), Cond.methodLink RJ2 161 yJ11_lowSurrogate_5068e]
def wsX3_signAt_r5 : List Cond := [Cond.static yJ11_lowSurrogate_5068e, Cond.code yJ11_lowSurrogate_5068e cJ11_lowSurrogate_5068e 1 (some .char), Cond.constant RJ11 76 (56320)]
def wsX3_signAt : List Cond := .code yX3_signAt cX3_signAt 6 (some .int) :: ((wsX3_signAt_r1 ++ (wsX3_signAt_r2 ++ (wsX3_signAt_r3 ++ (wsX3_signAt_r4 ++ wsX3_signAt_r5)))) ++ wsX30)
def wsX3_closeOf : List Cond := .code yX3_closeOf cX3_closeOf 4 (some .int) :: ([.methodLink RX3 19 yX3_characterAt, .instanceMethod yX3_characterAt, .selects RX3 yX3_characterAt yX3_characterAt, .initialized RX3, .code yX3_characterAt cX3_characterAt 2 (some .int), .fieldLink RX3 15 "PictureRows$Text" "length" "I", .fieldLink RX3 9 "PictureRows$Text" "characters" "[I"] ++ wsX30)
def wsX3_numberBetween : List Cond := .code yX3_numberBetween cX3_numberBetween 5 (some .int) :: ([.methodLink RX3 19 yX3_characterAt, .instanceMethod yX3_characterAt, .selects RX3 yX3_characterAt yX3_characterAt, .initialized RX3, .code yX3_characterAt cX3_characterAt 2 (some .int), .fieldLink RX3 15 "PictureRows$Text" "length" "I", .fieldLink RX3 9 "PictureRows$Text" "characters" "[I"] ++ wsX30)
def wsX2_add : List Cond := .code yX2_add cX2_add 4 none :: ([.fieldLink RX2 27 "PictureRows$Runs" "size" "I", .fieldLink RX2 9 "PictureRows$Runs" "signs" "[I", .fieldLink RX2 15 "PictureRows$Runs" "times" "[I", .fieldLink RX2 18 "PictureRows$Runs" "places" "[I"] ++ wsX20)
def wsX2_take_r1 : List Cond := [Cond.fieldLink RX2 27 "PictureRows$Runs" "size" "I", Cond.methodLink RX2 36 yX3_signAt, Cond.instanceMethod yX3_signAt, Cond.selects RX3 yX3_signAt yX3_signAt, Cond.initialized RX3, Cond.code yX3_signAt cX3_signAt 6 (some .int), Cond.methodLink RX3 19 yX3_characterAt, Cond.instanceMethod yX3_characterAt, Cond.selects RX3 yX3_characterAt yX3_characterAt, Cond.code yX3_characterAt cX3_characterAt 2 (some .int), Cond.fieldLink RX3 15 "PictureRows$Text" "length" "I", Cond.fieldLink RX3 9 "PictureRows$Text" "characters" "[I", Cond.static yX4_greatOf, Cond.initialized RX4, Cond.code yX4_greatOf cX4_greatOf 1 (some .int), Cond.methodLink RX3 28 yJ0_indexOf_0f7a4, Cond.instanceMethod yJ0_indexOf_0f7a4, Cond.selects RJ0 yJ0_indexOf_0f7a4 yJ0_indexOf_0f7a4, Cond.initialized RJ0, Cond.code yJ0_indexOf_0f7a4 cJ0_indexOf_0f7a4 2 (some .int), Cond.methodLink RJ0 633 yJ0_indexOf_7cf53, Cond.instanceMethod yJ0_indexOf_7cf53, Cond.selects RJ0 yJ0_indexOf_7cf53 yJ0_indexOf_7cf53, Cond.code yJ0_indexOf_7cf53 cJ0_indexOf_7cf53 3 (some .int)]
def wsX2_take_r2 : List Cond := [Cond.fieldLink RJ0 9 "java/lang/String" "value" "[B", Cond.methodLink RJ0 492 yJ0_isLatin1_aae02, Cond.instanceMethod yJ0_isLatin1_aae02, Cond.selects RJ0 yJ0_isLatin1_aae02 yJ0_isLatin1_aae02, Cond.code yJ0_isLatin1_aae02 cJ0_isLatin1_aae02 1 (some .boolean), Cond.fieldLink RJ0 38 "java/lang/String" "COMPACT_STRINGS" "Z", Cond.fieldLink RJ0 15 "java/lang/String" "coder" "B", Cond.methodLink RJ0 505 yJ0_length_8abf5, Cond.instanceMethod yJ0_length_8abf5, Cond.selects RJ0 yJ0_length_8abf5 yJ0_length_8abf5, Cond.code yJ0_length_8abf5 cJ0_length_8abf5 1 (some .int), Cond.methodLink RJ0 335 yJ0_coder_7d493, Cond.instanceMethod yJ0_coder_7d493, Cond.selects RJ0 yJ0_coder_7d493 yJ0_coder_7d493, Cond.code yJ0_coder_7d493 cJ0_coder_7d493 1 (some .byte), Cond.methodLink RJ0 637 yJ1_indexOf_4cfef, Cond.static yJ1_indexOf_4cfef, Cond.initialized RJ1, Cond.code yJ1_indexOf_4cfef cJ1_indexOf_4cfef 4 (some .int), Cond.methodLink RJ1 92 Lib.Math.max.name, Cond.static Lib.Math.max.name, Cond.initialized "java/lang/Math", Cond.code Lib.Math.max.name Lib.Math.max.code 2 (some .int), Cond.methodLink RJ1 38 Lib.Math.min.name]
def wsX2_take_r3 : List Cond := [Cond.static Lib.Math.min.name, Cond.code Lib.Math.min.name Lib.Math.min.code 2 (some .int), Cond.methodLink RJ1 88 yJ1_canEncode_9a6ad, Cond.static yJ1_canEncode_9a6ad, Cond.code yJ1_canEncode_9a6ad cJ1_canEncode_9a6ad 1 (some .boolean), Cond.methodLink RJ1 95 yJ1_indexOfChar_4cfef, Cond.static yJ1_indexOfChar_4cfef, Cond.code yJ1_indexOfChar_4cfef cJ1_indexOfChar_4cfef 6 (some .int), Cond.methodLink RJ0 640 yJ2_indexOf_4cfef, Cond.static yJ2_indexOf_4cfef, Cond.initialized RJ2, Cond.code yJ2_indexOf_4cfef cJ2_indexOf_4cfef 4 (some .int), Cond.methodLink RJ2 224 Lib.Math.max.name, Cond.methodLink RJ2 183 Lib.Math.min.name, Cond.constant RJ2 227 (65536), Cond.methodLink RJ2 228 yJ2_indexOfChar_4cfef, Cond.static yJ2_indexOfChar_4cfef, Cond.code yJ2_indexOfChar_4cfef cJ2_indexOfChar_4cfef 4 (some .int), Cond.methodLink RJ2 96 yJ2_checkBoundsBeginEnd_d044e, Cond.static yJ2_checkBoundsBeginEnd_d044e, Cond.code yJ2_checkBoundsBeginEnd_d044e cJ2_checkBoundsBeginEnd_d044e 3 none, Cond.methodLink RJ2 48 yJ2_length_9d52b, Cond.static yJ2_length_9d52b, Cond.code yJ2_length_9d52b cJ2_length_9d52b 1 (some .int)]
def wsX2_take_r4 : List Cond := [Cond.methodLink RJ2 241 yJ0_checkBoundsBeginEnd_23922, Cond.static yJ0_checkBoundsBeginEnd_23922, Cond.code yJ0_checkBoundsBeginEnd_23922 cJ0_checkBoundsBeginEnd_23922 3 none, Cond.fieldLink RJ0 1053 "jdk/internal/util/Preconditions" "SIOOBE_FORMATTER" "Ljava/util/function/BiFunction;", Cond.methodLink RJ0 1062 yJ3_checkFromToIndex_8c36e, Cond.static yJ3_checkFromToIndex_8c36e, Cond.initialized RJ3, Cond.code yJ3_checkFromToIndex_8c36e cJ3_checkFromToIndex_8c36e 4 (some .int), Cond.methodLink RJ2 244 yJ2_indexOfCharUnsafe_4cfef, Cond.static yJ2_indexOfCharUnsafe_4cfef, Cond.code yJ2_indexOfCharUnsafe_4cfef cJ2_indexOfCharUnsafe_4cfef 5 (some .int), Cond.methodLink RJ2 71 yJ2_getChar_3b067, Cond.static yJ2_getChar_3b067, Cond.code yJ2_getChar_3b067 cJ2_getChar_3b067 2 (some .char), Cond.fieldLink RJ2 44 "java/lang/StringUTF16" "$assertionsDisabled" "Z", Cond.fieldLink RJ2 59 "java/lang/StringUTF16" "HI_BYTE_SHIFT" "I", Cond.fieldLink RJ2 63 "java/lang/StringUTF16" "LO_BYTE_SHIFT" "I", Cond.methodLink RJ2 232 yJ2_indexOfSupplementary_4cfef, Cond.static yJ2_indexOfSupplementary_4cfef, Cond.code yJ2_indexOfSupplementary_4cfef cJ2_indexOfSupplementary_4cfef 7 (some .int), Cond.methodLink RJ2 164 yJ11_isValidCodePoint_9a6ad, Cond.static yJ11_isValidCodePoint_9a6ad, Cond.initialized RJ11, Cond.code yJ11_isValidCodePoint_9a6ad cJ11_isValidCodePoint_9a6ad 2 (some .boolean)]
def wsX2_take_r5 : List Cond := [Cond.methodLink RJ2 157 yJ11_highSurrogate_5068e, Cond.static yJ11_highSurrogate_5068e, Cond.code yJ11_highSurrogate_5068e cJ11_highSurrogate_5068e 1 (some .char), Cond.constant RJ11 110 (55232), Cond.methodLink RJ2 161 yJ11_lowSurrogate_5068e, Cond.static yJ11_lowSurrogate_5068e, Cond.code yJ11_lowSurrogate_5068e cJ11_lowSurrogate_5068e 1 (some .char), Cond.constant RJ11 76 (56320), Cond.static yX4_widthOf, Cond.code yX4_widthOf cX4_widthOf 1 (some .int), Cond.methodLink RX2 44 yX3_characterAt, Cond.methodLink RX2 47 yX3_closeOf, Cond.instanceMethod yX3_closeOf, Cond.selects RX3 yX3_closeOf yX3_closeOf, Cond.code yX3_closeOf cX3_closeOf 4 (some .int), Cond.methodLink RX2 50 yX3_numberBetween, Cond.instanceMethod yX3_numberBetween, Cond.selects RX3 yX3_numberBetween yX3_numberBetween, Cond.code yX3_numberBetween cX3_numberBetween 5 (some .int), Cond.methodLink RX2 53 yX2_add, Cond.instanceMethod yX2_add, Cond.selects RX2 yX2_add yX2_add, Cond.initialized RX2, Cond.code yX2_add cX2_add 4 none]
def wsX2_take_r6 : List Cond := [Cond.fieldLink RX2 9 "PictureRows$Runs" "signs" "[I", Cond.fieldLink RX2 15 "PictureRows$Runs" "times" "[I", Cond.fieldLink RX2 18 "PictureRows$Runs" "places" "[I"]
def wsX2_take : List Cond := .code yX2_take cX2_take 9 (some .int) :: ((wsX2_take_r1 ++ (wsX2_take_r2 ++ (wsX2_take_r3 ++ (wsX2_take_r4 ++ (wsX2_take_r5 ++ wsX2_take_r6))))) ++ wsX20 ++ wsX30)
def wsX2_kindOf : List Cond := .code yX2_kindOf cX2_kindOf 4 (some .int) :: ([.constant RX2 64 (98308), .constant RX2 65 (-114729)])
def wsX2_findKinds : List Cond := .code yX2_findKinds cX2_findKinds 8 none :: ([.fieldLink RX2 27 "PictureRows$Runs" "size" "I", .fieldLink RX2 9 "PictureRows$Runs" "signs" "[I", .fieldLink RX2 21 "PictureRows$Runs" "kinds" "[I", .methodLink RX2 57 yX2_countOf, .instanceMethod yX2_countOf, .selects RX2 yX2_countOf yX2_countOf, .initialized RX2, .code yX2_countOf cX2_countOf 4 (some .int), .fieldLink RX2 15 "PictureRows$Runs" "times" "[I", .methodLink RX2 60 yX2_kindOf, .static yX2_kindOf, .code yX2_kindOf cX2_kindOf 4 (some .int), .constant RX2 64 (98308), .constant RX2 65 (-114729)] ++ wsX20)
def wsX2_findDigits : List Cond := .code yX2_findDigits cX2_findDigits 3 none :: ([.fieldLink RX2 27 "PictureRows$Runs" "size" "I", .constant RX2 66 (200896), .fieldLink RX2 21 "PictureRows$Runs" "kinds" "[I", .fieldLink RX2 15 "PictureRows$Runs" "times" "[I", .fieldLink RX2 9 "PictureRows$Runs" "signs" "[I", .fieldLink RX2 24 "PictureRows$Runs" "digitCounts" "[I", .static yX4_holds, .initialized RX4, .code yX4_holds cX4_holds 2 (some .boolean), .methodLink RX2 71 yX2_standsAhead, .instanceMethod yX2_standsAhead, .selects RX2 yX2_standsAhead yX2_standsAhead, .initialized RX2, .code yX2_standsAhead cX2_standsAhead 4 (some .boolean)] ++ wsX20)
def wsX4_isKind : List Cond := .code yX4_isKind cX4_isKind 1 (some .boolean) :: ([])
def wsX2_hasRivalAhead : List Cond := .code yX2_hasRivalAhead cX2_hasRivalAhead 2 (some .boolean) :: ([.fieldLink RX2 9 "PictureRows$Runs" "signs" "[I", .fieldLink RX2 21 "PictureRows$Runs" "kinds" "[I", .methodLink RX2 71 yX2_standsAhead, .instanceMethod yX2_standsAhead, .selects RX2 yX2_standsAhead yX2_standsAhead, .initialized RX2, .code yX2_standsAhead cX2_standsAhead 4 (some .boolean), .static yX4_holds, .initialized RX4, .code yX4_holds cX4_holds 2 (some .boolean)] ++ wsX20)
def wsX2_firstMisplaced_r1 : List Cond := [Cond.constant RX2 74 (524287), Cond.fieldLink RX2 27 "PictureRows$Runs" "size" "I", Cond.fieldLink RX2 21 "PictureRows$Runs" "kinds" "[I", Cond.fieldLink RX2 18 "PictureRows$Runs" "places" "[I", Cond.fieldLink RX2 15 "PictureRows$Runs" "times" "[I", Cond.fieldLink RX2 24 "PictureRows$Runs" "digitCounts" "[I", Cond.fieldLink RX2 9 "PictureRows$Runs" "signs" "[I", Cond.static yX4_isKind, Cond.initialized RX4, Cond.code yX4_isKind cX4_isKind 1 (some .boolean), Cond.static yX4_holds, Cond.code yX4_holds cX4_holds 2 (some .boolean), Cond.methodLink RX2 82 yX2_hasRivalAhead, Cond.instanceMethod yX2_hasRivalAhead, Cond.selects RX2 yX2_hasRivalAhead yX2_hasRivalAhead, Cond.initialized RX2, Cond.code yX2_hasRivalAhead cX2_hasRivalAhead 2 (some .boolean), Cond.methodLink RX2 71 yX2_standsAhead, Cond.instanceMethod yX2_standsAhead, Cond.selects RX2 yX2_standsAhead yX2_standsAhead, Cond.code yX2_standsAhead cX2_standsAhead 4 (some .boolean), Cond.static yX4_signsCounted, Cond.code yX4_signsCounted cX4_signsCounted 2 (some .int), Cond.methodLink RX4 146 yX4_widthOf]
def wsX2_firstMisplaced_r2 : List Cond := [Cond.static yX4_widthOf, Cond.code yX4_widthOf cX4_widthOf 1 (some .int)]
def wsX2_firstMisplaced : List Cond := .code yX2_firstMisplaced cX2_firstMisplaced 6 (some .int) :: ((wsX2_firstMisplaced_r1 ++ wsX2_firstMisplaced_r2) ++ wsX20)
def wsX3_init : List Cond := .code yX3_init cX3_init 1 none :: ([.methodLink RX3 3 objectInit, .instanceMethod objectInit, .code objectInit ⟨#[0xb1]⟩ 1 none, .arrayClass .int, .fieldLink RX3 9 "PictureRows$Text" "characters" "[I", .fieldLink RX3 15 "PictureRows$Text" "length" "I"] ++ wsX30)
def wsX3_append : List Cond := .code yX3_append cX3_append 2 none :: ([.fieldLink RX3 15 "PictureRows$Text" "length" "I", .fieldLink RX3 9 "PictureRows$Text" "characters" "[I"] ++ wsX30)
def wsX3_clear : List Cond := .code yX3_clear cX3_clear 1 none :: ([.fieldLink RX3 15 "PictureRows$Text" "length" "I"] ++ wsX30)
def wsX4_init_r1 : List Cond := [Cond.methodLink RX4 3 objectInit, Cond.instanceMethod objectInit, Cond.code objectInit ⟨#[0xb1]⟩ 1 none, Cond.classLink RX4 9 RX3, Cond.instantiable RX3 2, Cond.initialized RX3, Cond.fieldLink RX4 12 "PictureRows" "text" "LPictureRows$Text;", Cond.classLink RX4 16 RX2, Cond.instantiable RX2 6, Cond.initialized RX2, Cond.fieldLink RX4 19 "PictureRows" "runs" "LPictureRows$Runs;", Cond.classLink RX4 23 RX1, Cond.fieldLink RX4 25 "PictureRows" "kept" "[LPictureRows$Picture;", Cond.fieldLink RX4 29 "PictureRows" "keptCount" "I", Cond.fieldLink RX4 33 "PictureRows" "latest" "LPictureRows$Picture;", Cond.fieldLink RX4 37 "PictureRows" "currencySign" "I", Cond.instanceMethod yX3_init, Cond.code yX3_init cX3_init 1 none, Cond.methodLink RX3 3 objectInit, Cond.arrayClass .int, Cond.fieldLink RX3 9 "PictureRows$Text" "characters" "[I", Cond.fieldLink RX3 15 "PictureRows$Text" "length" "I", Cond.instanceMethod yX2_init, Cond.code yX2_init cX2_init 1 none]
def wsX4_init_r2 : List Cond := [Cond.methodLink RX2 3 objectInit, Cond.fieldLink RX2 9 "PictureRows$Runs" "signs" "[I", Cond.fieldLink RX2 15 "PictureRows$Runs" "times" "[I", Cond.fieldLink RX2 18 "PictureRows$Runs" "places" "[I", Cond.fieldLink RX2 21 "PictureRows$Runs" "kinds" "[I", Cond.fieldLink RX2 24 "PictureRows$Runs" "digitCounts" "[I", Cond.fieldLink RX2 27 "PictureRows$Runs" "size" "I"]
def wsX4_init : List Cond := .code yX4_init cX4_init 1 none :: ((wsX4_init_r1 ++ wsX4_init_r2) ++ wsX30 ++ wsX40 ++ wsX20)
def wsX4_sign : List Cond := .code yX4_sign cX4_sign 2 none :: ([.fieldLink RX4 12 "PictureRows" "text" "LPictureRows$Text;", .methodLink RX4 40 yX3_append, .instanceMethod yX3_append, .selects RX3 yX3_append yX3_append, .initialized RX3, .code yX3_append cX3_append 2 none, .fieldLink RX3 15 "PictureRows$Text" "length" "I", .fieldLink RX3 9 "PictureRows$Text" "characters" "[I"] ++ wsX40 ++ wsX30)
def wsX4_firstWrongPlace_r1 : List Cond := [Cond.fieldLink RX4 19 "PictureRows" "runs" "LPictureRows$Runs;", Cond.fieldLink RX4 12 "PictureRows" "text" "LPictureRows$Text;", Cond.fieldLink RX4 37 "PictureRows" "currencySign" "I", Cond.constant RX4 132 (278464), Cond.methodLink RX4 116 yX2_take, Cond.instanceMethod yX2_take, Cond.selects RX2 yX2_take yX2_take, Cond.initialized RX2, Cond.code yX2_take cX2_take 9 (some .int), Cond.fieldLink RX2 27 "PictureRows$Runs" "size" "I", Cond.methodLink RX2 36 yX3_signAt, Cond.instanceMethod yX3_signAt, Cond.selects RX3 yX3_signAt yX3_signAt, Cond.initialized RX3, Cond.code yX3_signAt cX3_signAt 6 (some .int), Cond.methodLink RX3 19 yX3_characterAt, Cond.instanceMethod yX3_characterAt, Cond.selects RX3 yX3_characterAt yX3_characterAt, Cond.code yX3_characterAt cX3_characterAt 2 (some .int), Cond.fieldLink RX3 15 "PictureRows$Text" "length" "I", Cond.fieldLink RX3 9 "PictureRows$Text" "characters" "[I", Cond.static yX4_greatOf, Cond.initialized RX4, Cond.code yX4_greatOf cX4_greatOf 1 (some .int)]
def wsX4_firstWrongPlace_r2 : List Cond := [Cond.methodLink RX3 28 yJ0_indexOf_0f7a4, Cond.instanceMethod yJ0_indexOf_0f7a4, Cond.selects RJ0 yJ0_indexOf_0f7a4 yJ0_indexOf_0f7a4, Cond.initialized RJ0, Cond.code yJ0_indexOf_0f7a4 cJ0_indexOf_0f7a4 2 (some .int), Cond.methodLink RJ0 633 yJ0_indexOf_7cf53, Cond.instanceMethod yJ0_indexOf_7cf53, Cond.selects RJ0 yJ0_indexOf_7cf53 yJ0_indexOf_7cf53, Cond.code yJ0_indexOf_7cf53 cJ0_indexOf_7cf53 3 (some .int), Cond.fieldLink RJ0 9 "java/lang/String" "value" "[B", Cond.methodLink RJ0 492 yJ0_isLatin1_aae02, Cond.instanceMethod yJ0_isLatin1_aae02, Cond.selects RJ0 yJ0_isLatin1_aae02 yJ0_isLatin1_aae02, Cond.code yJ0_isLatin1_aae02 cJ0_isLatin1_aae02 1 (some .boolean), Cond.fieldLink RJ0 38 "java/lang/String" "COMPACT_STRINGS" "Z", Cond.fieldLink RJ0 15 "java/lang/String" "coder" "B", Cond.methodLink RJ0 505 yJ0_length_8abf5, Cond.instanceMethod yJ0_length_8abf5, Cond.selects RJ0 yJ0_length_8abf5 yJ0_length_8abf5, Cond.code yJ0_length_8abf5 cJ0_length_8abf5 1 (some .int), Cond.methodLink RJ0 335 yJ0_coder_7d493, Cond.instanceMethod yJ0_coder_7d493, Cond.selects RJ0 yJ0_coder_7d493 yJ0_coder_7d493, Cond.code yJ0_coder_7d493 cJ0_coder_7d493 1 (some .byte)]
def wsX4_firstWrongPlace_r3 : List Cond := [Cond.methodLink RJ0 637 yJ1_indexOf_4cfef, Cond.static yJ1_indexOf_4cfef, Cond.initialized RJ1, Cond.code yJ1_indexOf_4cfef cJ1_indexOf_4cfef 4 (some .int), Cond.methodLink RJ1 92 Lib.Math.max.name, Cond.static Lib.Math.max.name, Cond.initialized "java/lang/Math", Cond.code Lib.Math.max.name Lib.Math.max.code 2 (some .int), Cond.methodLink RJ1 38 Lib.Math.min.name, Cond.static Lib.Math.min.name, Cond.code Lib.Math.min.name Lib.Math.min.code 2 (some .int), Cond.methodLink RJ1 88 yJ1_canEncode_9a6ad, Cond.static yJ1_canEncode_9a6ad, Cond.code yJ1_canEncode_9a6ad cJ1_canEncode_9a6ad 1 (some .boolean), Cond.methodLink RJ1 95 yJ1_indexOfChar_4cfef, Cond.static yJ1_indexOfChar_4cfef, Cond.code yJ1_indexOfChar_4cfef cJ1_indexOfChar_4cfef 6 (some .int), Cond.methodLink RJ0 640 yJ2_indexOf_4cfef, Cond.static yJ2_indexOf_4cfef, Cond.initialized RJ2, Cond.code yJ2_indexOf_4cfef cJ2_indexOf_4cfef 4 (some .int), Cond.methodLink RJ2 224 Lib.Math.max.name, Cond.methodLink RJ2 183 Lib.Math.min.name, Cond.constant RJ2 227 (65536)]
def wsX4_firstWrongPlace_r4 : List Cond := [Cond.methodLink RJ2 228 yJ2_indexOfChar_4cfef, Cond.static yJ2_indexOfChar_4cfef, Cond.code yJ2_indexOfChar_4cfef cJ2_indexOfChar_4cfef 4 (some .int), Cond.methodLink RJ2 96 yJ2_checkBoundsBeginEnd_d044e, Cond.static yJ2_checkBoundsBeginEnd_d044e, Cond.code yJ2_checkBoundsBeginEnd_d044e cJ2_checkBoundsBeginEnd_d044e 3 none, Cond.methodLink RJ2 48 yJ2_length_9d52b, Cond.static yJ2_length_9d52b, Cond.code yJ2_length_9d52b cJ2_length_9d52b 1 (some .int), Cond.methodLink RJ2 241 yJ0_checkBoundsBeginEnd_23922, Cond.static yJ0_checkBoundsBeginEnd_23922, Cond.code yJ0_checkBoundsBeginEnd_23922 cJ0_checkBoundsBeginEnd_23922 3 none, Cond.fieldLink RJ0 1053 "jdk/internal/util/Preconditions" "SIOOBE_FORMATTER" "Ljava/util/function/BiFunction;", Cond.methodLink RJ0 1062 yJ3_checkFromToIndex_8c36e, Cond.static yJ3_checkFromToIndex_8c36e, Cond.initialized RJ3, Cond.code yJ3_checkFromToIndex_8c36e cJ3_checkFromToIndex_8c36e 4 (some .int), Cond.methodLink RJ2 244 yJ2_indexOfCharUnsafe_4cfef, Cond.static yJ2_indexOfCharUnsafe_4cfef, Cond.code yJ2_indexOfCharUnsafe_4cfef cJ2_indexOfCharUnsafe_4cfef 5 (some .int), Cond.methodLink RJ2 71 yJ2_getChar_3b067, Cond.static yJ2_getChar_3b067, Cond.code yJ2_getChar_3b067 cJ2_getChar_3b067 2 (some .char), Cond.fieldLink RJ2 44 "java/lang/StringUTF16" "$assertionsDisabled" "Z"]
def wsX4_firstWrongPlace_r5 : List Cond := [Cond.fieldLink RJ2 59 "java/lang/StringUTF16" "HI_BYTE_SHIFT" "I", Cond.fieldLink RJ2 63 "java/lang/StringUTF16" "LO_BYTE_SHIFT" "I", Cond.methodLink RJ2 232 yJ2_indexOfSupplementary_4cfef, Cond.static yJ2_indexOfSupplementary_4cfef, Cond.code yJ2_indexOfSupplementary_4cfef cJ2_indexOfSupplementary_4cfef 7 (some .int), Cond.methodLink RJ2 164 yJ11_isValidCodePoint_9a6ad, Cond.static yJ11_isValidCodePoint_9a6ad, Cond.initialized RJ11, Cond.code yJ11_isValidCodePoint_9a6ad cJ11_isValidCodePoint_9a6ad 2 (some .boolean), Cond.methodLink RJ2 157 yJ11_highSurrogate_5068e, Cond.static yJ11_highSurrogate_5068e, Cond.code yJ11_highSurrogate_5068e cJ11_highSurrogate_5068e 1 (some .char), Cond.constant RJ11 110 (55232), Cond.methodLink RJ2 161 yJ11_lowSurrogate_5068e, Cond.static yJ11_lowSurrogate_5068e, Cond.code yJ11_lowSurrogate_5068e cJ11_lowSurrogate_5068e 1 (some .char), Cond.constant RJ11 76 (56320), Cond.static yX4_widthOf, Cond.code yX4_widthOf cX4_widthOf 1 (some .int), Cond.methodLink RX2 44 yX3_characterAt, Cond.methodLink RX2 47 yX3_closeOf, Cond.instanceMethod yX3_closeOf, Cond.selects RX3 yX3_closeOf yX3_closeOf, Cond.code yX3_closeOf cX3_closeOf 4 (some .int)]
def wsX4_firstWrongPlace_r6 : List Cond := [Cond.methodLink RX2 50 yX3_numberBetween, Cond.instanceMethod yX3_numberBetween, Cond.selects RX3 yX3_numberBetween yX3_numberBetween, Cond.code yX3_numberBetween cX3_numberBetween 5 (some .int), Cond.methodLink RX2 53 yX2_add, Cond.instanceMethod yX2_add, Cond.selects RX2 yX2_add yX2_add, Cond.code yX2_add cX2_add 4 none, Cond.fieldLink RX2 9 "PictureRows$Runs" "signs" "[I", Cond.fieldLink RX2 15 "PictureRows$Runs" "times" "[I", Cond.fieldLink RX2 18 "PictureRows$Runs" "places" "[I", Cond.methodLink RX4 120 yX2_findKinds, Cond.instanceMethod yX2_findKinds, Cond.selects RX2 yX2_findKinds yX2_findKinds, Cond.code yX2_findKinds cX2_findKinds 8 none, Cond.fieldLink RX2 21 "PictureRows$Runs" "kinds" "[I", Cond.methodLink RX2 57 yX2_countOf, Cond.instanceMethod yX2_countOf, Cond.selects RX2 yX2_countOf yX2_countOf, Cond.code yX2_countOf cX2_countOf 4 (some .int), Cond.methodLink RX2 60 yX2_kindOf, Cond.static yX2_kindOf, Cond.code yX2_kindOf cX2_kindOf 4 (some .int), Cond.constant RX2 64 (98308)]
def wsX4_firstWrongPlace_r7 : List Cond := [Cond.constant RX2 65 (-114729), Cond.methodLink RX4 123 yX2_findDigits, Cond.instanceMethod yX2_findDigits, Cond.selects RX2 yX2_findDigits yX2_findDigits, Cond.code yX2_findDigits cX2_findDigits 3 none, Cond.constant RX2 66 (200896), Cond.fieldLink RX2 24 "PictureRows$Runs" "digitCounts" "[I", Cond.static yX4_holds, Cond.code yX4_holds cX4_holds 2 (some .boolean), Cond.methodLink RX2 71 yX2_standsAhead, Cond.instanceMethod yX2_standsAhead, Cond.selects RX2 yX2_standsAhead yX2_standsAhead, Cond.code yX2_standsAhead cX2_standsAhead 4 (some .boolean), Cond.methodLink RX4 126 yX2_firstMisplaced, Cond.instanceMethod yX2_firstMisplaced, Cond.selects RX2 yX2_firstMisplaced yX2_firstMisplaced, Cond.code yX2_firstMisplaced cX2_firstMisplaced 6 (some .int), Cond.constant RX2 74 (524287), Cond.static yX4_isKind, Cond.code yX4_isKind cX4_isKind 1 (some .boolean), Cond.methodLink RX2 82 yX2_hasRivalAhead, Cond.instanceMethod yX2_hasRivalAhead, Cond.selects RX2 yX2_hasRivalAhead yX2_hasRivalAhead, Cond.code yX2_hasRivalAhead cX2_hasRivalAhead 2 (some .boolean)]
def wsX4_firstWrongPlace_r8 : List Cond := [Cond.static yX4_signsCounted, Cond.code yX4_signsCounted cX4_signsCounted 2 (some .int), Cond.methodLink RX4 146 yX4_widthOf, Cond.methodLink RX4 129 yX2_kindsPresent, Cond.instanceMethod yX2_kindsPresent, Cond.selects RX2 yX2_kindsPresent yX2_kindsPresent, Cond.code yX2_kindsPresent cX2_kindsPresent 3 (some .int)]
def wsX4_firstWrongPlace : List Cond := .code yX4_firstWrongPlace cX4_firstWrongPlace 2 (some .int) :: ((wsX4_firstWrongPlace_r1 ++ (wsX4_firstWrongPlace_r2 ++ (wsX4_firstWrongPlace_r3 ++ (wsX4_firstWrongPlace_r4 ++ (wsX4_firstWrongPlace_r5 ++ (wsX4_firstWrongPlace_r6 ++ (wsX4_firstWrongPlace_r7 ++ wsX4_firstWrongPlace_r8))))))) ++ wsX40 ++ wsX30 ++ wsX20)
def wsX4_keep : List Cond := .code yX4_keep cX4_keep 2 none :: ([.fieldLink RX4 33 "PictureRows" "latest" "LPictureRows$Picture;", .fieldLink RX4 29 "PictureRows" "keptCount" "I", .fieldLink RX4 25 "PictureRows" "kept" "[LPictureRows$Picture;"] ++ wsX40)
def wsX4_read_r1 : List Cond := [Cond.fieldLink RX4 12 "PictureRows" "text" "LPictureRows$Text;", Cond.classLink RX4 23 RX1, Cond.instantiable RX1 10, Cond.initialized RX1, Cond.fieldLink RX4 19 "PictureRows" "runs" "LPictureRows$Runs;", Cond.fieldLink RX4 37 "PictureRows" "currencySign" "I", Cond.methodLink RX4 44 yX4_firstWrongPlace, Cond.instanceMethod yX4_firstWrongPlace, Cond.selects RX4 yX4_firstWrongPlace yX4_firstWrongPlace, Cond.initialized RX4, Cond.code yX4_firstWrongPlace cX4_firstWrongPlace 2 (some .int), Cond.constant RX4 132 (278464), Cond.methodLink RX4 116 yX2_take, Cond.instanceMethod yX2_take, Cond.selects RX2 yX2_take yX2_take, Cond.initialized RX2, Cond.code yX2_take cX2_take 9 (some .int), Cond.fieldLink RX2 27 "PictureRows$Runs" "size" "I", Cond.methodLink RX2 36 yX3_signAt, Cond.instanceMethod yX3_signAt, Cond.selects RX3 yX3_signAt yX3_signAt, Cond.initialized RX3, Cond.code yX3_signAt cX3_signAt 6 (some .int), Cond.methodLink RX3 19 yX3_characterAt]
def wsX4_read_r2 : List Cond := [Cond.instanceMethod yX3_characterAt, Cond.selects RX3 yX3_characterAt yX3_characterAt, Cond.code yX3_characterAt cX3_characterAt 2 (some .int), Cond.fieldLink RX3 15 "PictureRows$Text" "length" "I", Cond.fieldLink RX3 9 "PictureRows$Text" "characters" "[I", Cond.static yX4_greatOf, Cond.code yX4_greatOf cX4_greatOf 1 (some .int), Cond.methodLink RX3 28 yJ0_indexOf_0f7a4, Cond.instanceMethod yJ0_indexOf_0f7a4, Cond.selects RJ0 yJ0_indexOf_0f7a4 yJ0_indexOf_0f7a4, Cond.initialized RJ0, Cond.code yJ0_indexOf_0f7a4 cJ0_indexOf_0f7a4 2 (some .int), Cond.methodLink RJ0 633 yJ0_indexOf_7cf53, Cond.instanceMethod yJ0_indexOf_7cf53, Cond.selects RJ0 yJ0_indexOf_7cf53 yJ0_indexOf_7cf53, Cond.code yJ0_indexOf_7cf53 cJ0_indexOf_7cf53 3 (some .int), Cond.fieldLink RJ0 9 "java/lang/String" "value" "[B", Cond.methodLink RJ0 492 yJ0_isLatin1_aae02, Cond.instanceMethod yJ0_isLatin1_aae02, Cond.selects RJ0 yJ0_isLatin1_aae02 yJ0_isLatin1_aae02, Cond.code yJ0_isLatin1_aae02 cJ0_isLatin1_aae02 1 (some .boolean), Cond.fieldLink RJ0 38 "java/lang/String" "COMPACT_STRINGS" "Z", Cond.fieldLink RJ0 15 "java/lang/String" "coder" "B", Cond.methodLink RJ0 505 yJ0_length_8abf5]
def wsX4_read_r3 : List Cond := [Cond.instanceMethod yJ0_length_8abf5, Cond.selects RJ0 yJ0_length_8abf5 yJ0_length_8abf5, Cond.code yJ0_length_8abf5 cJ0_length_8abf5 1 (some .int), Cond.methodLink RJ0 335 yJ0_coder_7d493, Cond.instanceMethod yJ0_coder_7d493, Cond.selects RJ0 yJ0_coder_7d493 yJ0_coder_7d493, Cond.code yJ0_coder_7d493 cJ0_coder_7d493 1 (some .byte), Cond.methodLink RJ0 637 yJ1_indexOf_4cfef, Cond.static yJ1_indexOf_4cfef, Cond.initialized RJ1, Cond.code yJ1_indexOf_4cfef cJ1_indexOf_4cfef 4 (some .int), Cond.methodLink RJ1 92 Lib.Math.max.name, Cond.static Lib.Math.max.name, Cond.initialized "java/lang/Math", Cond.code Lib.Math.max.name Lib.Math.max.code 2 (some .int), Cond.methodLink RJ1 38 Lib.Math.min.name, Cond.static Lib.Math.min.name, Cond.code Lib.Math.min.name Lib.Math.min.code 2 (some .int), Cond.methodLink RJ1 88 yJ1_canEncode_9a6ad, Cond.static yJ1_canEncode_9a6ad, Cond.code yJ1_canEncode_9a6ad cJ1_canEncode_9a6ad 1 (some .boolean), Cond.methodLink RJ1 95 yJ1_indexOfChar_4cfef, Cond.static yJ1_indexOfChar_4cfef, Cond.code yJ1_indexOfChar_4cfef cJ1_indexOfChar_4cfef 6 (some .int)]
def wsX4_read_r4 : List Cond := [Cond.methodLink RJ0 640 yJ2_indexOf_4cfef, Cond.static yJ2_indexOf_4cfef, Cond.initialized RJ2, Cond.code yJ2_indexOf_4cfef cJ2_indexOf_4cfef 4 (some .int), Cond.methodLink RJ2 224 Lib.Math.max.name, Cond.methodLink RJ2 183 Lib.Math.min.name, Cond.constant RJ2 227 (65536), Cond.methodLink RJ2 228 yJ2_indexOfChar_4cfef, Cond.static yJ2_indexOfChar_4cfef, Cond.code yJ2_indexOfChar_4cfef cJ2_indexOfChar_4cfef 4 (some .int), Cond.methodLink RJ2 96 yJ2_checkBoundsBeginEnd_d044e, Cond.static yJ2_checkBoundsBeginEnd_d044e, Cond.code yJ2_checkBoundsBeginEnd_d044e cJ2_checkBoundsBeginEnd_d044e 3 none, Cond.methodLink RJ2 48 yJ2_length_9d52b, Cond.static yJ2_length_9d52b, Cond.code yJ2_length_9d52b cJ2_length_9d52b 1 (some .int), Cond.methodLink RJ2 241 yJ0_checkBoundsBeginEnd_23922, Cond.static yJ0_checkBoundsBeginEnd_23922, Cond.code yJ0_checkBoundsBeginEnd_23922 cJ0_checkBoundsBeginEnd_23922 3 none, Cond.fieldLink RJ0 1053 "jdk/internal/util/Preconditions" "SIOOBE_FORMATTER" "Ljava/util/function/BiFunction;", Cond.methodLink RJ0 1062 yJ3_checkFromToIndex_8c36e, Cond.static yJ3_checkFromToIndex_8c36e, Cond.initialized RJ3, Cond.code yJ3_checkFromToIndex_8c36e cJ3_checkFromToIndex_8c36e 4 (some .int)]
def wsX4_read_r5 : List Cond := [Cond.methodLink RJ2 244 yJ2_indexOfCharUnsafe_4cfef, Cond.static yJ2_indexOfCharUnsafe_4cfef, Cond.code yJ2_indexOfCharUnsafe_4cfef cJ2_indexOfCharUnsafe_4cfef 5 (some .int), Cond.methodLink RJ2 71 yJ2_getChar_3b067, Cond.static yJ2_getChar_3b067, Cond.code yJ2_getChar_3b067 cJ2_getChar_3b067 2 (some .char), Cond.fieldLink RJ2 44 "java/lang/StringUTF16" "$assertionsDisabled" "Z", Cond.fieldLink RJ2 59 "java/lang/StringUTF16" "HI_BYTE_SHIFT" "I", Cond.fieldLink RJ2 63 "java/lang/StringUTF16" "LO_BYTE_SHIFT" "I", Cond.methodLink RJ2 232 yJ2_indexOfSupplementary_4cfef, Cond.static yJ2_indexOfSupplementary_4cfef, Cond.code yJ2_indexOfSupplementary_4cfef cJ2_indexOfSupplementary_4cfef 7 (some .int), Cond.methodLink RJ2 164 yJ11_isValidCodePoint_9a6ad, Cond.static yJ11_isValidCodePoint_9a6ad, Cond.initialized RJ11, Cond.code yJ11_isValidCodePoint_9a6ad cJ11_isValidCodePoint_9a6ad 2 (some .boolean), Cond.methodLink RJ2 157 yJ11_highSurrogate_5068e, Cond.static yJ11_highSurrogate_5068e, Cond.code yJ11_highSurrogate_5068e cJ11_highSurrogate_5068e 1 (some .char), Cond.constant RJ11 110 (55232), Cond.methodLink RJ2 161 yJ11_lowSurrogate_5068e, Cond.static yJ11_lowSurrogate_5068e, Cond.code yJ11_lowSurrogate_5068e cJ11_lowSurrogate_5068e 1 (some .char), Cond.constant RJ11 76 (56320)]
def wsX4_read_r6 : List Cond := [Cond.static yX4_widthOf, Cond.code yX4_widthOf cX4_widthOf 1 (some .int), Cond.methodLink RX2 44 yX3_characterAt, Cond.methodLink RX2 47 yX3_closeOf, Cond.instanceMethod yX3_closeOf, Cond.selects RX3 yX3_closeOf yX3_closeOf, Cond.code yX3_closeOf cX3_closeOf 4 (some .int), Cond.methodLink RX2 50 yX3_numberBetween, Cond.instanceMethod yX3_numberBetween, Cond.selects RX3 yX3_numberBetween yX3_numberBetween, Cond.code yX3_numberBetween cX3_numberBetween 5 (some .int), Cond.methodLink RX2 53 yX2_add, Cond.instanceMethod yX2_add, Cond.selects RX2 yX2_add yX2_add, Cond.code yX2_add cX2_add 4 none, Cond.fieldLink RX2 9 "PictureRows$Runs" "signs" "[I", Cond.fieldLink RX2 15 "PictureRows$Runs" "times" "[I", Cond.fieldLink RX2 18 "PictureRows$Runs" "places" "[I", Cond.methodLink RX4 120 yX2_findKinds, Cond.instanceMethod yX2_findKinds, Cond.selects RX2 yX2_findKinds yX2_findKinds, Cond.code yX2_findKinds cX2_findKinds 8 none, Cond.fieldLink RX2 21 "PictureRows$Runs" "kinds" "[I", Cond.methodLink RX2 57 yX2_countOf]
def wsX4_read_r7 : List Cond := [Cond.instanceMethod yX2_countOf, Cond.selects RX2 yX2_countOf yX2_countOf, Cond.code yX2_countOf cX2_countOf 4 (some .int), Cond.methodLink RX2 60 yX2_kindOf, Cond.static yX2_kindOf, Cond.code yX2_kindOf cX2_kindOf 4 (some .int), Cond.constant RX2 64 (98308), Cond.constant RX2 65 (-114729), Cond.methodLink RX4 123 yX2_findDigits, Cond.instanceMethod yX2_findDigits, Cond.selects RX2 yX2_findDigits yX2_findDigits, Cond.code yX2_findDigits cX2_findDigits 3 none, Cond.constant RX2 66 (200896), Cond.fieldLink RX2 24 "PictureRows$Runs" "digitCounts" "[I", Cond.static yX4_holds, Cond.code yX4_holds cX4_holds 2 (some .boolean), Cond.methodLink RX2 71 yX2_standsAhead, Cond.instanceMethod yX2_standsAhead, Cond.selects RX2 yX2_standsAhead yX2_standsAhead, Cond.code yX2_standsAhead cX2_standsAhead 4 (some .boolean), Cond.methodLink RX4 126 yX2_firstMisplaced, Cond.instanceMethod yX2_firstMisplaced, Cond.selects RX2 yX2_firstMisplaced yX2_firstMisplaced, Cond.code yX2_firstMisplaced cX2_firstMisplaced 6 (some .int)]
def wsX4_read_r8 : List Cond := [Cond.constant RX2 74 (524287), Cond.static yX4_isKind, Cond.code yX4_isKind cX4_isKind 1 (some .boolean), Cond.methodLink RX2 82 yX2_hasRivalAhead, Cond.instanceMethod yX2_hasRivalAhead, Cond.selects RX2 yX2_hasRivalAhead yX2_hasRivalAhead, Cond.code yX2_hasRivalAhead cX2_hasRivalAhead 2 (some .boolean), Cond.static yX4_signsCounted, Cond.code yX4_signsCounted cX4_signsCounted 2 (some .int), Cond.methodLink RX4 146 yX4_widthOf, Cond.methodLink RX4 129 yX2_kindsPresent, Cond.instanceMethod yX2_kindsPresent, Cond.selects RX2 yX2_kindsPresent yX2_kindsPresent, Cond.code yX2_kindsPresent cX2_kindsPresent 3 (some .int), Cond.methodLink RX4 48 yX3_clear, Cond.instanceMethod yX3_clear, Cond.selects RX3 yX3_clear yX3_clear, Cond.code yX3_clear cX3_clear 1 none, Cond.methodLink RX4 51 yX1_init, Cond.instanceMethod yX1_init, Cond.code yX1_init cX1_init 8 none, Cond.methodLink RX1 3 objectInit, Cond.instanceMethod objectInit, Cond.code objectInit ⟨#[0xb1]⟩ 1 none]
def wsX4_read_r9 : List Cond := [Cond.methodLink RX1 15 Lib.Math.max.name, Cond.fieldLink RX1 38 "PictureRows$Picture" "signs" "[I", Cond.fieldLink RX1 44 "PictureRows$Picture" "times" "[I", Cond.fieldLink RX1 48 "PictureRows$Picture" "kinds" "[I", Cond.fieldLink RX1 49 "PictureRows$Picture" "currencySign" "I", Cond.fieldLink RX1 55 "PictureRows$Picture" "signCount" "I", Cond.fieldLink RX1 62 "PictureRows$Picture" "category" "I", Cond.fieldLink RX1 68 "PictureRows$Picture" "digitsAhead" "I", Cond.fieldLink RX1 71 "PictureRows$Picture" "digitsBehind" "I", Cond.fieldLink RX1 81 "PictureRows$Picture" "scale" "I", Cond.constant RX1 84 (196608), Cond.classLink RX1 85 RX0, Cond.instantiable RX0 3, Cond.initialized RX0, Cond.fieldLink RX1 90 "PictureRows$Picture" "effect" "LPictureRows$Effect;", Cond.methodLink RX1 21 yX2_kindsPresent, Cond.methodLink RX1 25 yX2_pointRun, Cond.instanceMethod yX2_pointRun, Cond.selects RX2 yX2_pointRun yX2_pointRun, Cond.code yX2_pointRun cX2_pointRun 2 (some .int), Cond.methodLink RX1 32 yJ7_copyOf_59c91, Cond.static yJ7_copyOf_59c91, Cond.initialized RJ7, Cond.code yJ7_copyOf_59c91 cJ7_copyOf_59c91 3 (some (.array .int))]
def wsX4_read_r10 : List Cond := [Cond.methodLink RJ7 316 ⟨"[I", "clone", "()Ljava/lang/Object;"⟩, Cond.sameMethod "[I" "java/lang/Object" "clone" "()Ljava/lang/Object;", Cond.native ⟨"java/lang/Object", "clone", "()Ljava/lang/Object;"⟩, Cond.instanceMethod ⟨"java/lang/Object", "clone", "()Ljava/lang/Object;"⟩, Cond.selects "[I" ⟨"[I", "clone", "()Ljava/lang/Object;"⟩ ⟨"java/lang/Object", "clone", "()Ljava/lang/Object;"⟩, Cond.classLink RJ7 317 "[I", Cond.arrayClass .int, Cond.methodLink RJ7 304 Lib.Math.min.name, Cond.methodLink RJ7 150 arraycopyName, Cond.native arraycopyName, Cond.static arraycopyName, Cond.initialized "java/lang/System", Cond.methodLink RX1 52 yX2_allSignsCounted, Cond.instanceMethod yX2_allSignsCounted, Cond.selects RX2 yX2_allSignsCounted yX2_allSignsCounted, Cond.code yX2_allSignsCounted cX2_allSignsCounted 3 (some .int), Cond.methodLink RX1 58 yX2_categoryOf, Cond.instanceMethod yX2_categoryOf, Cond.selects RX2 yX2_categoryOf yX2_categoryOf, Cond.code yX2_categoryOf cX2_categoryOf 2 (some .int), Cond.constant RX2 93 (-249857), Cond.methodLink RX1 65 yX2_digitsIn, Cond.instanceMethod yX2_digitsIn, Cond.selects RX2 yX2_digitsIn yX2_digitsIn]
def wsX4_read_r11 : List Cond := [Cond.code yX2_digitsIn cX2_digitsIn 5 (some .int), Cond.methodLink RX2 88 Lib.Math.max.name, Cond.methodLink RX1 87 yX0_init, Cond.instanceMethod yX0_init, Cond.code yX0_init cX0_init 2 none, Cond.methodLink RX0 3 objectInit, Cond.fieldLink RX0 9 "PictureRows$Effect" "size" "I", Cond.methodLink RX0 15 Lib.Math.max.name, Cond.fieldLink RX0 21 "PictureRows$Effect" "signs" "[I", Cond.fieldLink RX0 25 "PictureRows$Effect" "times" "[I", Cond.methodLink RX1 94 yX0_add, Cond.instanceMethod yX0_add, Cond.selects RX0 yX0_add yX0_add, Cond.code yX0_add cX0_add 4 none, Cond.methodLink RX4 54 yX4_keep, Cond.instanceMethod yX4_keep, Cond.selects RX4 yX4_keep yX4_keep, Cond.code yX4_keep cX4_keep 2 none, Cond.fieldLink RX4 33 "PictureRows" "latest" "LPictureRows$Picture;", Cond.fieldLink RX4 29 "PictureRows" "keptCount" "I", Cond.fieldLink RX4 25 "PictureRows" "kept" "[LPictureRows$Picture;"]
def wsX4_read : List Cond := .code yX4_read cX4_read 3 (some .int) :: ((wsX4_read_r1 ++ (wsX4_read_r2 ++ (wsX4_read_r3 ++ (wsX4_read_r4 ++ (wsX4_read_r5 ++ (wsX4_read_r6 ++ (wsX4_read_r7 ++ (wsX4_read_r8 ++ (wsX4_read_r9 ++ (wsX4_read_r10 ++ wsX4_read_r11)))))))))) ++ wsX40 ++ wsX10 ++ wsX30 ++ wsX20 ++ wsX00)
def wsX4_category : List Cond := .code yX4_category cX4_category 1 (some .int) :: ([.fieldLink RX4 33 "PictureRows" "latest" "LPictureRows$Picture;"] ++ wsX40 ++ wsX10)
def wsX4_digits : List Cond := .code yX4_digits cX4_digits 2 (some .int) :: ([.fieldLink RX4 33 "PictureRows" "latest" "LPictureRows$Picture;", .methodLink RX4 64 yX1_isNumber, .instanceMethod yX1_isNumber, .selects RX1 yX1_isNumber yX1_isNumber, .initialized RX1, .code yX1_isNumber cX1_isNumber 1 (some .boolean), .fieldLink RX1 62 "PictureRows$Picture" "category" "I"] ++ wsX40 ++ wsX10)
def wsX4_scale : List Cond := .code yX4_scale cX4_scale 1 (some .int) :: ([.fieldLink RX4 33 "PictureRows" "latest" "LPictureRows$Picture;", .methodLink RX4 64 yX1_isNumber, .instanceMethod yX1_isNumber, .selects RX1 yX1_isNumber yX1_isNumber, .initialized RX1, .code yX1_isNumber cX1_isNumber 1 (some .boolean), .fieldLink RX1 62 "PictureRows$Picture" "category" "I"] ++ wsX40 ++ wsX10)
def wsX4_follows : List Cond := .code yX4_follows cX4_follows 3 (some .boolean) :: ([.classLink RX4 81 RJx00060, .instantiable RJx00060 6, .initialized RJx00060, .fieldLink RX4 88 "PictureRows" "MAY_COME_BEHIND" "[I", .methodLink RX4 77 yX4_isKind, .static yX4_isKind, .initialized RX4, .code yX4_isKind cX4_isKind 1 (some .boolean), .methodLink RX4 92 yX4_holds, .static yX4_holds, .code yX4_holds cX4_holds 2 (some .boolean)] ++ wsJx000600)
def wsX4_canBeCurrency_r1 : List Cond := [Cond.methodLink RX4 138 yX4_greatOf, Cond.static yX4_greatOf, Cond.initialized RX4, Cond.code yX4_greatOf cX4_greatOf 1 (some .int), Cond.methodLink RX4 141 yJ0_indexOf_0f7a4, Cond.instanceMethod yJ0_indexOf_0f7a4, Cond.selects RJ0 yJ0_indexOf_0f7a4 yJ0_indexOf_0f7a4, Cond.initialized RJ0, Cond.code yJ0_indexOf_0f7a4 cJ0_indexOf_0f7a4 2 (some .int), Cond.methodLink RJ0 633 yJ0_indexOf_7cf53, Cond.instanceMethod yJ0_indexOf_7cf53, Cond.selects RJ0 yJ0_indexOf_7cf53 yJ0_indexOf_7cf53, Cond.code yJ0_indexOf_7cf53 cJ0_indexOf_7cf53 3 (some .int), Cond.fieldLink RJ0 9 "java/lang/String" "value" "[B", Cond.methodLink RJ0 492 yJ0_isLatin1_aae02, Cond.instanceMethod yJ0_isLatin1_aae02, Cond.selects RJ0 yJ0_isLatin1_aae02 yJ0_isLatin1_aae02, Cond.code yJ0_isLatin1_aae02 cJ0_isLatin1_aae02 1 (some .boolean), Cond.fieldLink RJ0 38 "java/lang/String" "COMPACT_STRINGS" "Z", Cond.fieldLink RJ0 15 "java/lang/String" "coder" "B", Cond.methodLink RJ0 505 yJ0_length_8abf5, Cond.instanceMethod yJ0_length_8abf5, Cond.selects RJ0 yJ0_length_8abf5 yJ0_length_8abf5, Cond.code yJ0_length_8abf5 cJ0_length_8abf5 1 (some .int)]
def wsX4_canBeCurrency_r2 : List Cond := [Cond.methodLink RJ0 335 yJ0_coder_7d493, Cond.instanceMethod yJ0_coder_7d493, Cond.selects RJ0 yJ0_coder_7d493 yJ0_coder_7d493, Cond.code yJ0_coder_7d493 cJ0_coder_7d493 1 (some .byte), Cond.methodLink RJ0 637 yJ1_indexOf_4cfef, Cond.static yJ1_indexOf_4cfef, Cond.initialized RJ1, Cond.code yJ1_indexOf_4cfef cJ1_indexOf_4cfef 4 (some .int), Cond.methodLink RJ1 92 Lib.Math.max.name, Cond.static Lib.Math.max.name, Cond.initialized "java/lang/Math", Cond.code Lib.Math.max.name Lib.Math.max.code 2 (some .int), Cond.methodLink RJ1 38 Lib.Math.min.name, Cond.static Lib.Math.min.name, Cond.code Lib.Math.min.name Lib.Math.min.code 2 (some .int), Cond.methodLink RJ1 88 yJ1_canEncode_9a6ad, Cond.static yJ1_canEncode_9a6ad, Cond.code yJ1_canEncode_9a6ad cJ1_canEncode_9a6ad 1 (some .boolean), Cond.methodLink RJ1 95 yJ1_indexOfChar_4cfef, Cond.static yJ1_indexOfChar_4cfef, Cond.code yJ1_indexOfChar_4cfef cJ1_indexOfChar_4cfef 6 (some .int), Cond.methodLink RJ0 640 yJ2_indexOf_4cfef, Cond.static yJ2_indexOf_4cfef, Cond.initialized RJ2]
def wsX4_canBeCurrency_r3 : List Cond := [Cond.code yJ2_indexOf_4cfef cJ2_indexOf_4cfef 4 (some .int), Cond.methodLink RJ2 224 Lib.Math.max.name, Cond.methodLink RJ2 183 Lib.Math.min.name, Cond.constant RJ2 227 (65536), Cond.methodLink RJ2 228 yJ2_indexOfChar_4cfef, Cond.static yJ2_indexOfChar_4cfef, Cond.code yJ2_indexOfChar_4cfef cJ2_indexOfChar_4cfef 4 (some .int), Cond.methodLink RJ2 96 yJ2_checkBoundsBeginEnd_d044e, Cond.static yJ2_checkBoundsBeginEnd_d044e, Cond.code yJ2_checkBoundsBeginEnd_d044e cJ2_checkBoundsBeginEnd_d044e 3 none, Cond.methodLink RJ2 48 yJ2_length_9d52b, Cond.static yJ2_length_9d52b, Cond.code yJ2_length_9d52b cJ2_length_9d52b 1 (some .int), Cond.methodLink RJ2 241 yJ0_checkBoundsBeginEnd_23922, Cond.static yJ0_checkBoundsBeginEnd_23922, Cond.code yJ0_checkBoundsBeginEnd_23922 cJ0_checkBoundsBeginEnd_23922 3 none, Cond.fieldLink RJ0 1053 "jdk/internal/util/Preconditions" "SIOOBE_FORMATTER" "Ljava/util/function/BiFunction;", Cond.methodLink RJ0 1062 yJ3_checkFromToIndex_8c36e, Cond.static yJ3_checkFromToIndex_8c36e, Cond.initialized RJ3, Cond.code yJ3_checkFromToIndex_8c36e cJ3_checkFromToIndex_8c36e 4 (some .int), Cond.methodLink RJ2 244 yJ2_indexOfCharUnsafe_4cfef, Cond.static yJ2_indexOfCharUnsafe_4cfef, Cond.code yJ2_indexOfCharUnsafe_4cfef cJ2_indexOfCharUnsafe_4cfef 5 (some .int)]
def wsX4_canBeCurrency_r4 : List Cond := [Cond.methodLink RJ2 71 yJ2_getChar_3b067, Cond.static yJ2_getChar_3b067, Cond.code yJ2_getChar_3b067 cJ2_getChar_3b067 2 (some .char), Cond.fieldLink RJ2 44 "java/lang/StringUTF16" "$assertionsDisabled" "Z", Cond.fieldLink RJ2 59 "java/lang/StringUTF16" "HI_BYTE_SHIFT" "I", Cond.fieldLink RJ2 63 "java/lang/StringUTF16" "LO_BYTE_SHIFT" "I", Cond.methodLink RJ2 232 yJ2_indexOfSupplementary_4cfef, Cond.static yJ2_indexOfSupplementary_4cfef, Cond.code yJ2_indexOfSupplementary_4cfef cJ2_indexOfSupplementary_4cfef 7 (some .int), Cond.methodLink RJ2 164 yJ11_isValidCodePoint_9a6ad, Cond.static yJ11_isValidCodePoint_9a6ad, Cond.initialized RJ11, Cond.code yJ11_isValidCodePoint_9a6ad cJ11_isValidCodePoint_9a6ad 2 (some .boolean), Cond.methodLink RJ2 157 yJ11_highSurrogate_5068e, Cond.static yJ11_highSurrogate_5068e, Cond.code yJ11_highSurrogate_5068e cJ11_highSurrogate_5068e 1 (some .char), Cond.constant RJ11 110 (55232), Cond.methodLink RJ2 161 yJ11_lowSurrogate_5068e, Cond.static yJ11_lowSurrogate_5068e, Cond.code yJ11_lowSurrogate_5068e cJ11_lowSurrogate_5068e 1 (some .char), Cond.constant RJ11 76 (56320)]
def wsX4_canBeCurrency : List Cond := .code yX4_canBeCurrency cX4_canBeCurrency 1 (some .boolean) :: ((wsX4_canBeCurrency_r1 ++ (wsX4_canBeCurrency_r2 ++ (wsX4_canBeCurrency_r3 ++ wsX4_canBeCurrency_r4))))
def wsX4_currency_r1 : List Cond := [Cond.fieldLink RX4 37 "PictureRows" "currencySign" "I", Cond.methodLink RX4 96 yX4_canBeCurrency, Cond.static yX4_canBeCurrency, Cond.initialized RX4, Cond.code yX4_canBeCurrency cX4_canBeCurrency 1 (some .boolean), Cond.methodLink RX4 138 yX4_greatOf, Cond.static yX4_greatOf, Cond.code yX4_greatOf cX4_greatOf 1 (some .int), Cond.methodLink RX4 141 yJ0_indexOf_0f7a4, Cond.instanceMethod yJ0_indexOf_0f7a4, Cond.selects RJ0 yJ0_indexOf_0f7a4 yJ0_indexOf_0f7a4, Cond.initialized RJ0, Cond.code yJ0_indexOf_0f7a4 cJ0_indexOf_0f7a4 2 (some .int), Cond.methodLink RJ0 633 yJ0_indexOf_7cf53, Cond.instanceMethod yJ0_indexOf_7cf53, Cond.selects RJ0 yJ0_indexOf_7cf53 yJ0_indexOf_7cf53, Cond.code yJ0_indexOf_7cf53 cJ0_indexOf_7cf53 3 (some .int), Cond.fieldLink RJ0 9 "java/lang/String" "value" "[B", Cond.methodLink RJ0 492 yJ0_isLatin1_aae02, Cond.instanceMethod yJ0_isLatin1_aae02, Cond.selects RJ0 yJ0_isLatin1_aae02 yJ0_isLatin1_aae02, Cond.code yJ0_isLatin1_aae02 cJ0_isLatin1_aae02 1 (some .boolean), Cond.fieldLink RJ0 38 "java/lang/String" "COMPACT_STRINGS" "Z", Cond.fieldLink RJ0 15 "java/lang/String" "coder" "B"]
def wsX4_currency_r2 : List Cond := [Cond.methodLink RJ0 505 yJ0_length_8abf5, Cond.instanceMethod yJ0_length_8abf5, Cond.selects RJ0 yJ0_length_8abf5 yJ0_length_8abf5, Cond.code yJ0_length_8abf5 cJ0_length_8abf5 1 (some .int), Cond.methodLink RJ0 335 yJ0_coder_7d493, Cond.instanceMethod yJ0_coder_7d493, Cond.selects RJ0 yJ0_coder_7d493 yJ0_coder_7d493, Cond.code yJ0_coder_7d493 cJ0_coder_7d493 1 (some .byte), Cond.methodLink RJ0 637 yJ1_indexOf_4cfef, Cond.static yJ1_indexOf_4cfef, Cond.initialized RJ1, Cond.code yJ1_indexOf_4cfef cJ1_indexOf_4cfef 4 (some .int), Cond.methodLink RJ1 92 Lib.Math.max.name, Cond.static Lib.Math.max.name, Cond.initialized "java/lang/Math", Cond.code Lib.Math.max.name Lib.Math.max.code 2 (some .int), Cond.methodLink RJ1 38 Lib.Math.min.name, Cond.static Lib.Math.min.name, Cond.code Lib.Math.min.name Lib.Math.min.code 2 (some .int), Cond.methodLink RJ1 88 yJ1_canEncode_9a6ad, Cond.static yJ1_canEncode_9a6ad, Cond.code yJ1_canEncode_9a6ad cJ1_canEncode_9a6ad 1 (some .boolean), Cond.methodLink RJ1 95 yJ1_indexOfChar_4cfef, Cond.static yJ1_indexOfChar_4cfef]
def wsX4_currency_r3 : List Cond := [Cond.code yJ1_indexOfChar_4cfef cJ1_indexOfChar_4cfef 6 (some .int), Cond.methodLink RJ0 640 yJ2_indexOf_4cfef, Cond.static yJ2_indexOf_4cfef, Cond.initialized RJ2, Cond.code yJ2_indexOf_4cfef cJ2_indexOf_4cfef 4 (some .int), Cond.methodLink RJ2 224 Lib.Math.max.name, Cond.methodLink RJ2 183 Lib.Math.min.name, Cond.constant RJ2 227 (65536), Cond.methodLink RJ2 228 yJ2_indexOfChar_4cfef, Cond.static yJ2_indexOfChar_4cfef, Cond.code yJ2_indexOfChar_4cfef cJ2_indexOfChar_4cfef 4 (some .int), Cond.methodLink RJ2 96 yJ2_checkBoundsBeginEnd_d044e, Cond.static yJ2_checkBoundsBeginEnd_d044e, Cond.code yJ2_checkBoundsBeginEnd_d044e cJ2_checkBoundsBeginEnd_d044e 3 none, Cond.methodLink RJ2 48 yJ2_length_9d52b, Cond.static yJ2_length_9d52b, Cond.code yJ2_length_9d52b cJ2_length_9d52b 1 (some .int), Cond.methodLink RJ2 241 yJ0_checkBoundsBeginEnd_23922, Cond.static yJ0_checkBoundsBeginEnd_23922, Cond.code yJ0_checkBoundsBeginEnd_23922 cJ0_checkBoundsBeginEnd_23922 3 none, Cond.fieldLink RJ0 1053 "jdk/internal/util/Preconditions" "SIOOBE_FORMATTER" "Ljava/util/function/BiFunction;", Cond.methodLink RJ0 1062 yJ3_checkFromToIndex_8c36e, Cond.static yJ3_checkFromToIndex_8c36e, Cond.initialized RJ3]
def wsX4_currency_r4 : List Cond := [Cond.code yJ3_checkFromToIndex_8c36e cJ3_checkFromToIndex_8c36e 4 (some .int), Cond.methodLink RJ2 244 yJ2_indexOfCharUnsafe_4cfef, Cond.static yJ2_indexOfCharUnsafe_4cfef, Cond.code yJ2_indexOfCharUnsafe_4cfef cJ2_indexOfCharUnsafe_4cfef 5 (some .int), Cond.methodLink RJ2 71 yJ2_getChar_3b067, Cond.static yJ2_getChar_3b067, Cond.code yJ2_getChar_3b067 cJ2_getChar_3b067 2 (some .char), Cond.fieldLink RJ2 44 "java/lang/StringUTF16" "$assertionsDisabled" "Z", Cond.fieldLink RJ2 59 "java/lang/StringUTF16" "HI_BYTE_SHIFT" "I", Cond.fieldLink RJ2 63 "java/lang/StringUTF16" "LO_BYTE_SHIFT" "I", Cond.methodLink RJ2 232 yJ2_indexOfSupplementary_4cfef, Cond.static yJ2_indexOfSupplementary_4cfef, Cond.code yJ2_indexOfSupplementary_4cfef cJ2_indexOfSupplementary_4cfef 7 (some .int), Cond.methodLink RJ2 164 yJ11_isValidCodePoint_9a6ad, Cond.static yJ11_isValidCodePoint_9a6ad, Cond.initialized RJ11, Cond.code yJ11_isValidCodePoint_9a6ad cJ11_isValidCodePoint_9a6ad 2 (some .boolean), Cond.methodLink RJ2 157 yJ11_highSurrogate_5068e, Cond.static yJ11_highSurrogate_5068e, Cond.code yJ11_highSurrogate_5068e cJ11_highSurrogate_5068e 1 (some .char), Cond.constant RJ11 110 (55232), Cond.methodLink RJ2 161 yJ11_lowSurrogate_5068e, Cond.static yJ11_lowSurrogate_5068e, Cond.code yJ11_lowSurrogate_5068e cJ11_lowSurrogate_5068e 1 (some .char)]
def wsX4_currency_r5 : List Cond := [Cond.constant RJ11 76 (56320)]
def wsX4_currency : List Cond := .code yX4_currency cX4_currency 3 (some .int) :: ((wsX4_currency_r1 ++ (wsX4_currency_r2 ++ (wsX4_currency_r3 ++ (wsX4_currency_r4 ++ wsX4_currency_r5)))) ++ wsX40)
def wsX4_at : List Cond := .code yX4_at cX4_at 2 (some .int) :: ([.fieldLink RX4 33 "PictureRows" "latest" "LPictureRows$Picture;", .methodLink RX4 99 yX1_characterAt, .instanceMethod yX1_characterAt, .selects RX1 yX1_characterAt yX1_characterAt, .initialized RX1, .code yX1_characterAt cX1_characterAt 5 (some .int), .fieldLink RX1 38 "PictureRows$Picture" "signs" "[I", .fieldLink RX1 44 "PictureRows$Picture" "times" "[I", .static yX4_widthOf, .initialized RX4, .code yX4_widthOf cX4_widthOf 1 (some .int), .methodLink RX1 101 yX1_letterOf, .instanceMethod yX1_letterOf, .selects RX1 yX1_letterOf yX1_letterOf, .code yX1_letterOf cX1_letterOf 3 (some .int), .fieldLink RX1 49 "PictureRows$Picture" "currencySign" "I"] ++ wsX40 ++ wsX10)
def wsX4_same : List Cond := .code yX4_same cX4_same 3 (some .boolean) :: ([.fieldLink RX4 33 "PictureRows" "latest" "LPictureRows$Picture;", .fieldLink RX4 29 "PictureRows" "keptCount" "I", .fieldLink RX4 25 "PictureRows" "kept" "[LPictureRows$Picture;", .methodLink RX4 107 yX0_equalTo, .instanceMethod yX0_equalTo, .selects RX0 yX0_equalTo yX0_equalTo, .initialized RX0, .code yX0_equalTo cX0_equalTo 3 (some .boolean), .fieldLink RX0 9 "PictureRows$Effect" "size" "I", .methodLink RX0 28 yX0_signOf, .instanceMethod yX0_signOf, .selects RX0 yX0_signOf yX0_signOf, .code yX0_signOf cX0_signOf 2 (some .int), .fieldLink RX0 21 "PictureRows$Effect" "signs" "[I", .methodLink RX0 32 yX0_timesOf, .instanceMethod yX0_timesOf, .selects RX0 yX0_timesOf yX0_timesOf, .code yX0_timesOf cX0_timesOf 2 (some .int), .fieldLink RX0 25 "PictureRows$Effect" "times" "[I"] ++ wsX40 ++ wsX10 ++ wsX00)
def wsX4_insertion : List Cond := .code yX4_insertion cX4_insertion 2 (some .int) :: ([.fieldLink RX4 33 "PictureRows" "latest" "LPictureRows$Picture;", .methodLink RX4 113 yX1_insertionsOf, .instanceMethod yX1_insertionsOf, .selects RX1 yX1_insertionsOf yX1_insertionsOf, .initialized RX1, .code yX1_insertionsOf cX1_insertionsOf 2 (some .int), .methodLink RX1 104 yX1_countOf, .instanceMethod yX1_countOf, .selects RX1 yX1_countOf yX1_countOf, .code yX1_countOf cX1_countOf 4 (some .int), .fieldLink RX1 38 "PictureRows$Picture" "signs" "[I", .fieldLink RX1 44 "PictureRows$Picture" "times" "[I", .methodLink RX1 105 yX1_countOfKind, .instanceMethod yX1_countOfKind, .selects RX1 yX1_countOfKind yX1_countOfKind, .code yX1_countOfKind cX1_countOfKind 4 (some .int), .fieldLink RX1 48 "PictureRows$Picture" "kinds" "[I"] ++ wsX40 ++ wsX10)
def wsX5_init_r1 : List Cond := [Cond.methodLink RX5 1 objectInit, Cond.instanceMethod objectInit, Cond.code objectInit ⟨#[0xb1]⟩ 1 none, Cond.arrayClass .int, Cond.fieldLink RX5 7 "PictureRowsModel" "text" "[I", Cond.fieldLink RX5 13 "PictureRowsModel" "money" "I", Cond.fieldLink RX5 17 "PictureRowsModel" "read" "[I", Cond.fieldLink RX5 20 "PictureRowsModel" "place" "[I", Cond.fieldLink RX5 23 "PictureRowsModel" "kind" "[I", Cond.fieldLink RX5 26 "PictureRowsModel" "signs" "[I", Cond.fieldLink RX5 29 "PictureRowsModel" "kinds" "[I", Cond.fieldLink RX5 32 "PictureRowsModel" "letters" "[I", Cond.fieldLink RX5 35 "PictureRowsModel" "latest" "I", Cond.constant RX5 38 (408000), Cond.fieldLink RX5 39 "PictureRowsModel" "rows" "[I", Cond.fieldLink RX5 42 "PictureRowsModel" "rowKinds" "[I", Cond.fieldLink RX5 45 "PictureRowsModel" "sizes" "[I", Cond.constant RX5 48 (442327), Cond.constant RX5 49 (171991), Cond.constant RX5 50 (236775), Cond.constant RX5 51 (234455), Cond.constant RX5 52 (168151), Cond.constant RX5 53 (168711), Cond.constant RX5 54 (171031)]
def wsX5_init_r2 : List Cond := [Cond.constant RX5 55 (176151), Cond.constant RX5 56 (233472), Cond.constant RX5 57 (72339), Cond.constant RX5 58 (163856), Cond.constant RX5 59 (262145), Cond.fieldLink RX5 60 "PictureRowsModel" "table" "[I", Cond.fieldLink RX5 63 "PictureRowsModel" "mine" "[I", Cond.fieldLink RX5 66 "PictureRowsModel" "its" "[I"]
def wsX5_init : List Cond := .code yX5_init cX5_init 1 none :: ((wsX5_init_r1 ++ wsX5_init_r2) ++ wsX50)
def wsX5_thrown : List Cond := .code yX5_thrown cX5_thrown 1 (some .int) :: ([.fieldLink RX5 69 "PictureRowsModel" "thrown" "I"] ++ wsX50)
def wsX5_sign : List Cond := .code yX5_sign cX5_sign 2 none :: ([.fieldLink RX5 69 "PictureRowsModel" "thrown" "I", .fieldLink RX5 72 "PictureRowsModel" "length" "I", .fieldLink RX5 7 "PictureRowsModel" "text" "[I"] ++ wsX50)
def wsX5_at0 : List Cond := .code yX5_at0 cX5_at0 2 (some .int) :: ([.fieldLink RX5 72 "PictureRowsModel" "length" "I", .fieldLink RX5 7 "PictureRowsModel" "text" "[I"] ++ wsX50)
def wsX5_great : List Cond := .code yX5_great cX5_great 1 (some .int) :: ([])
def wsX5_signAt : List Cond := .code yX5_signAt cX5_signAt 5 (some .int) :: ([.fieldLink RX5 13 "PictureRowsModel" "money" "I", .methodLink RX5 75 yX5_at0, .instanceMethod yX5_at0, .selects RX5 yX5_at0 yX5_at0, .initialized RX5, .code yX5_at0 cX5_at0 2 (some .int), .fieldLink RX5 72 "PictureRowsModel" "length" "I", .fieldLink RX5 7 "PictureRowsModel" "text" "[I", .methodLink RX5 79 yX5_great, .static yX5_great, .code yX5_great cX5_great 1 (some .int)] ++ wsX50)
def wsX5_counted : List Cond := .code yX5_counted cX5_counted 4 (some .int) :: ([.methodLink RX5 75 yX5_at0, .instanceMethod yX5_at0, .selects RX5 yX5_at0 yX5_at0, .initialized RX5, .code yX5_at0 cX5_at0 2 (some .int), .fieldLink RX5 72 "PictureRowsModel" "length" "I", .fieldLink RX5 7 "PictureRowsModel" "text" "[I"] ++ wsX50)
def wsX5_behindCount : List Cond := .code yX5_behindCount cX5_behindCount 4 (some .int) :: ([.methodLink RX5 75 yX5_at0, .instanceMethod yX5_at0, .selects RX5 yX5_at0 yX5_at0, .initialized RX5, .code yX5_at0 cX5_at0 2 (some .int), .fieldLink RX5 72 "PictureRowsModel" "length" "I", .fieldLink RX5 7 "PictureRowsModel" "text" "[I", .methodLink RX5 82 yX5_counted, .instanceMethod yX5_counted, .selects RX5 yX5_counted yX5_counted, .code yX5_counted cX5_counted 4 (some .int)] ++ wsX50)
def wsX5_scan_r1 : List Cond := [Cond.fieldLink RX5 85 "PictureRowsModel" "many" "I", Cond.fieldLink RX5 88 "PictureRowsModel" "pluses" "I", Cond.fieldLink RX5 91 "PictureRowsModel" "minuses" "I", Cond.fieldLink RX5 94 "PictureRowsModel" "moneys" "I", Cond.fieldLink RX5 72 "PictureRowsModel" "length" "I", Cond.fieldLink RX5 17 "PictureRowsModel" "read" "[I", Cond.fieldLink RX5 20 "PictureRowsModel" "place" "[I", Cond.methodLink RX5 97 yX5_signAt, Cond.instanceMethod yX5_signAt, Cond.selects RX5 yX5_signAt yX5_signAt, Cond.initialized RX5, Cond.code yX5_signAt cX5_signAt 5 (some .int), Cond.fieldLink RX5 13 "PictureRowsModel" "money" "I", Cond.methodLink RX5 75 yX5_at0, Cond.instanceMethod yX5_at0, Cond.selects RX5 yX5_at0 yX5_at0, Cond.code yX5_at0 cX5_at0 2 (some .int), Cond.fieldLink RX5 7 "PictureRowsModel" "text" "[I", Cond.methodLink RX5 79 yX5_great, Cond.static yX5_great, Cond.code yX5_great cX5_great 1 (some .int), Cond.methodLink RX5 100 yX5_behindCount, Cond.instanceMethod yX5_behindCount, Cond.selects RX5 yX5_behindCount yX5_behindCount]
def wsX5_scan_r2 : List Cond := [Cond.code yX5_behindCount cX5_behindCount 4 (some .int), Cond.methodLink RX5 82 yX5_counted, Cond.instanceMethod yX5_counted, Cond.selects RX5 yX5_counted yX5_counted, Cond.code yX5_counted cX5_counted 4 (some .int)]
def wsX5_scan : List Cond := .code yX5_scan cX5_scan 6 (some .int) :: ((wsX5_scan_r1 ++ wsX5_scan_r2) ++ wsX50)
def wsX5_sorts : List Cond := .code yX5_sorts cX5_sorts 10 none :: ([.fieldLink RX5 88 "PictureRowsModel" "pluses" "I", .fieldLink RX5 91 "PictureRowsModel" "minuses" "I", .fieldLink RX5 94 "PictureRowsModel" "moneys" "I", .fieldLink RX5 85 "PictureRowsModel" "many" "I", .fieldLink RX5 17 "PictureRowsModel" "read" "[I", .fieldLink RX5 23 "PictureRowsModel" "kind" "[I"] ++ wsX50)
def wsX5_isDigit : List Cond := .code yX5_isDigit cX5_isDigit 5 (some .boolean) :: ([.fieldLink RX5 23 "PictureRowsModel" "kind" "[I", .fieldLink RX5 17 "PictureRowsModel" "read" "[I"] ++ wsX50)
def wsX5_width : List Cond := .code yX5_width cX5_width 1 (some .int) :: ([])
def wsX5_isWrong : List Cond := .code yX5_isWrong cX5_isWrong 8 (some .boolean) :: ([.fieldLink RX5 60 "PictureRowsModel" "table" "[I", .fieldLink RX5 23 "PictureRowsModel" "kind" "[I", .fieldLink RX5 17 "PictureRowsModel" "read" "[I"] ++ wsX50)
def wsX5_isDigitFast : List Cond := .code yX5_isDigitFast cX5_isDigitFast 4 (some .boolean) :: ([.fieldLink RX5 17 "PictureRowsModel" "read" "[I", .fieldLink RX5 23 "PictureRowsModel" "kind" "[I", .methodLink RX5 117 yX5_isDigit, .instanceMethod yX5_isDigit, .selects RX5 yX5_isDigit yX5_isDigit, .initialized RX5, .code yX5_isDigit cX5_isDigit 5 (some .boolean)] ++ wsX50)
def wsX5_hasMain : List Cond := .code yX5_hasMain cX5_hasMain 3 (some .boolean) :: ([.fieldLink RX5 85 "PictureRowsModel" "many" "I", .fieldLink RX5 23 "PictureRowsModel" "kind" "[I"] ++ wsX50)
def wsX5_wrong_r1 : List Cond := [Cond.fieldLink RX5 85 "PictureRowsModel" "many" "I", Cond.fieldLink RX5 20 "PictureRowsModel" "place" "[I", Cond.fieldLink RX5 17 "PictureRowsModel" "read" "[I", Cond.fieldLink RX5 72 "PictureRowsModel" "length" "I", Cond.methodLink RX5 103 yX5_isWrong, Cond.instanceMethod yX5_isWrong, Cond.selects RX5 yX5_isWrong yX5_isWrong, Cond.initialized RX5, Cond.code yX5_isWrong cX5_isWrong 8 (some .boolean), Cond.fieldLink RX5 60 "PictureRowsModel" "table" "[I", Cond.fieldLink RX5 23 "PictureRowsModel" "kind" "[I", Cond.methodLink RX5 107 yX5_isDigitFast, Cond.instanceMethod yX5_isDigitFast, Cond.selects RX5 yX5_isDigitFast yX5_isDigitFast, Cond.code yX5_isDigitFast cX5_isDigitFast 4 (some .boolean), Cond.methodLink RX5 117 yX5_isDigit, Cond.instanceMethod yX5_isDigit, Cond.selects RX5 yX5_isDigit yX5_isDigit, Cond.code yX5_isDigit cX5_isDigit 5 (some .boolean), Cond.methodLink RX5 110 yX5_width, Cond.static yX5_width, Cond.code yX5_width cX5_width 1 (some .int), Cond.methodLink RX5 113 yX5_hasMain, Cond.instanceMethod yX5_hasMain]
def wsX5_wrong_r2 : List Cond := [Cond.selects RX5 yX5_hasMain yX5_hasMain, Cond.code yX5_hasMain cX5_hasMain 3 (some .boolean)]
def wsX5_wrong : List Cond := .code yX5_wrong cX5_wrong 6 (some .int) :: ((wsX5_wrong_r1 ++ wsX5_wrong_r2) ++ wsX50)
def wsX5_keep : List Cond := .code yX5_keep cX5_keep 2 none :: ([.fieldLink RX5 45 "PictureRowsModel" "sizes" "[I", .fieldLink RX5 136 "PictureRowsModel" "kept" "I", .fieldLink RX5 85 "PictureRowsModel" "many" "I", .fieldLink RX5 39 "PictureRowsModel" "rows" "[I", .fieldLink RX5 17 "PictureRowsModel" "read" "[I", .fieldLink RX5 42 "PictureRowsModel" "rowKinds" "[I", .fieldLink RX5 23 "PictureRowsModel" "kind" "[I"] ++ wsX50)
def wsX5_read_r1 : List Cond := [Cond.fieldLink RX5 69 "PictureRowsModel" "thrown" "I", Cond.fieldLink RX5 72 "PictureRowsModel" "length" "I", Cond.fieldLink RX5 85 "PictureRowsModel" "many" "I", Cond.fieldLink RX5 35 "PictureRowsModel" "latest" "I", Cond.fieldLink RX5 13 "PictureRowsModel" "money" "I", Cond.fieldLink RX5 130 "PictureRowsModel" "moneyOf" "I", Cond.fieldLink RX5 26 "PictureRowsModel" "signs" "[I", Cond.fieldLink RX5 17 "PictureRowsModel" "read" "[I", Cond.fieldLink RX5 29 "PictureRowsModel" "kinds" "[I", Cond.fieldLink RX5 23 "PictureRowsModel" "kind" "[I", Cond.fieldLink RX5 133 "PictureRowsModel" "shown" "I", Cond.fieldLink RX5 32 "PictureRowsModel" "letters" "[I", Cond.fieldLink RX5 136 "PictureRowsModel" "kept" "I", Cond.methodLink RX5 120 yX5_scan, Cond.instanceMethod yX5_scan, Cond.selects RX5 yX5_scan yX5_scan, Cond.initialized RX5, Cond.code yX5_scan cX5_scan 6 (some .int), Cond.fieldLink RX5 88 "PictureRowsModel" "pluses" "I", Cond.fieldLink RX5 91 "PictureRowsModel" "minuses" "I", Cond.fieldLink RX5 94 "PictureRowsModel" "moneys" "I", Cond.fieldLink RX5 20 "PictureRowsModel" "place" "[I", Cond.methodLink RX5 97 yX5_signAt, Cond.instanceMethod yX5_signAt]
def wsX5_read_r2 : List Cond := [Cond.selects RX5 yX5_signAt yX5_signAt, Cond.code yX5_signAt cX5_signAt 5 (some .int), Cond.methodLink RX5 75 yX5_at0, Cond.instanceMethod yX5_at0, Cond.selects RX5 yX5_at0 yX5_at0, Cond.code yX5_at0 cX5_at0 2 (some .int), Cond.fieldLink RX5 7 "PictureRowsModel" "text" "[I", Cond.methodLink RX5 79 yX5_great, Cond.static yX5_great, Cond.code yX5_great cX5_great 1 (some .int), Cond.methodLink RX5 100 yX5_behindCount, Cond.instanceMethod yX5_behindCount, Cond.selects RX5 yX5_behindCount yX5_behindCount, Cond.code yX5_behindCount cX5_behindCount 4 (some .int), Cond.methodLink RX5 82 yX5_counted, Cond.instanceMethod yX5_counted, Cond.selects RX5 yX5_counted yX5_counted, Cond.code yX5_counted cX5_counted 4 (some .int), Cond.methodLink RX5 124 yX5_sorts, Cond.instanceMethod yX5_sorts, Cond.selects RX5 yX5_sorts yX5_sorts, Cond.code yX5_sorts cX5_sorts 10 none, Cond.methodLink RX5 127 yX5_wrong, Cond.instanceMethod yX5_wrong]
def wsX5_read_r3 : List Cond := [Cond.selects RX5 yX5_wrong yX5_wrong, Cond.code yX5_wrong cX5_wrong 6 (some .int), Cond.methodLink RX5 103 yX5_isWrong, Cond.instanceMethod yX5_isWrong, Cond.selects RX5 yX5_isWrong yX5_isWrong, Cond.code yX5_isWrong cX5_isWrong 8 (some .boolean), Cond.fieldLink RX5 60 "PictureRowsModel" "table" "[I", Cond.methodLink RX5 107 yX5_isDigitFast, Cond.instanceMethod yX5_isDigitFast, Cond.selects RX5 yX5_isDigitFast yX5_isDigitFast, Cond.code yX5_isDigitFast cX5_isDigitFast 4 (some .boolean), Cond.methodLink RX5 117 yX5_isDigit, Cond.instanceMethod yX5_isDigit, Cond.selects RX5 yX5_isDigit yX5_isDigit, Cond.code yX5_isDigit cX5_isDigit 5 (some .boolean), Cond.methodLink RX5 110 yX5_width, Cond.static yX5_width, Cond.code yX5_width cX5_width 1 (some .int), Cond.methodLink RX5 113 yX5_hasMain, Cond.instanceMethod yX5_hasMain, Cond.selects RX5 yX5_hasMain yX5_hasMain, Cond.code yX5_hasMain cX5_hasMain 3 (some .boolean), Cond.methodLink RX5 139 yX5_keep, Cond.instanceMethod yX5_keep]
def wsX5_read_r4 : List Cond := [Cond.selects RX5 yX5_keep yX5_keep, Cond.code yX5_keep cX5_keep 2 none, Cond.fieldLink RX5 45 "PictureRowsModel" "sizes" "[I", Cond.fieldLink RX5 39 "PictureRowsModel" "rows" "[I", Cond.fieldLink RX5 42 "PictureRowsModel" "rowKinds" "[I"]
def wsX5_read : List Cond := .code yX5_read cX5_read 4 (some .int) :: ((wsX5_read_r1 ++ (wsX5_read_r2 ++ (wsX5_read_r3 ++ wsX5_read_r4))) ++ wsX50)
def wsX5_ofKind : List Cond := .code yX5_ofKind cX5_ofKind 4 (some .int) :: ([.fieldLink RX5 35 "PictureRowsModel" "latest" "I", .fieldLink RX5 29 "PictureRowsModel" "kinds" "[I"] ++ wsX50)
def wsX5_ofSign : List Cond := .code yX5_ofSign cX5_ofSign 4 (some .int) :: ([.fieldLink RX5 35 "PictureRowsModel" "latest" "I", .fieldLink RX5 26 "PictureRowsModel" "signs" "[I"] ++ wsX50)
def wsX5_sort : List Cond := .code yX5_sort cX5_sort 4 (some .int) :: ([.fieldLink RX5 35 "PictureRowsModel" "latest" "I", .methodLink RX5 142 yX5_ofKind, .instanceMethod yX5_ofKind, .selects RX5 yX5_ofKind yX5_ofKind, .initialized RX5, .code yX5_ofKind cX5_ofKind 4 (some .int), .fieldLink RX5 29 "PictureRowsModel" "kinds" "[I", .methodLink RX5 145 yX5_ofSign, .instanceMethod yX5_ofSign, .selects RX5 yX5_ofSign yX5_ofSign, .code yX5_ofSign cX5_ofSign 4 (some .int), .fieldLink RX5 26 "PictureRowsModel" "signs" "[I"] ++ wsX50)
def wsX5_category : List Cond := .code yX5_category cX5_category 1 (some .int) :: ([.fieldLink RX5 69 "PictureRowsModel" "thrown" "I", .methodLink RX5 148 yX5_sort, .instanceMethod yX5_sort, .selects RX5 yX5_sort yX5_sort, .initialized RX5, .code yX5_sort cX5_sort 4 (some .int), .fieldLink RX5 35 "PictureRowsModel" "latest" "I", .methodLink RX5 142 yX5_ofKind, .instanceMethod yX5_ofKind, .selects RX5 yX5_ofKind yX5_ofKind, .code yX5_ofKind cX5_ofKind 4 (some .int), .fieldLink RX5 29 "PictureRowsModel" "kinds" "[I", .methodLink RX5 145 yX5_ofSign, .instanceMethod yX5_ofSign, .selects RX5 yX5_ofSign yX5_ofSign, .code yX5_ofSign cX5_ofSign 4 (some .int), .fieldLink RX5 26 "PictureRowsModel" "signs" "[I"] ++ wsX50)
def wsX5_isDigitOf : List Cond := .code yX5_isDigitOf cX5_isDigitOf 5 (some .boolean) :: ([.fieldLink RX5 29 "PictureRowsModel" "kinds" "[I", .fieldLink RX5 26 "PictureRowsModel" "signs" "[I"] ++ wsX50)
def wsX5_point : List Cond := .code yX5_point cX5_point 2 (some .int) :: ([.fieldLink RX5 35 "PictureRowsModel" "latest" "I", .fieldLink RX5 29 "PictureRowsModel" "kinds" "[I"] ++ wsX50)
def wsX5_digitsOf : List Cond := .code yX5_digitsOf cX5_digitsOf 5 (some .int) :: ([.fieldLink RX5 35 "PictureRowsModel" "latest" "I", .methodLink RX5 151 yX5_point, .instanceMethod yX5_point, .selects RX5 yX5_point yX5_point, .initialized RX5, .code yX5_point cX5_point 2 (some .int), .fieldLink RX5 29 "PictureRowsModel" "kinds" "[I", .methodLink RX5 154 yX5_isDigitOf, .instanceMethod yX5_isDigitOf, .selects RX5 yX5_isDigitOf yX5_isDigitOf, .code yX5_isDigitOf cX5_isDigitOf 5 (some .boolean), .fieldLink RX5 26 "PictureRowsModel" "signs" "[I"] ++ wsX50)
def wsX5_isNumber : List Cond := .code yX5_isNumber cX5_isNumber 1 (some .boolean) :: ([.fieldLink RX5 35 "PictureRowsModel" "latest" "I", .methodLink RX5 148 yX5_sort, .instanceMethod yX5_sort, .selects RX5 yX5_sort yX5_sort, .initialized RX5, .code yX5_sort cX5_sort 4 (some .int), .methodLink RX5 142 yX5_ofKind, .instanceMethod yX5_ofKind, .selects RX5 yX5_ofKind yX5_ofKind, .code yX5_ofKind cX5_ofKind 4 (some .int), .fieldLink RX5 29 "PictureRowsModel" "kinds" "[I", .methodLink RX5 145 yX5_ofSign, .instanceMethod yX5_ofSign, .selects RX5 yX5_ofSign yX5_ofSign, .code yX5_ofSign cX5_ofSign 4 (some .int), .fieldLink RX5 26 "PictureRowsModel" "signs" "[I"] ++ wsX50)
def wsX5_digits_r1 : List Cond := [Cond.fieldLink RX5 69 "PictureRowsModel" "thrown" "I", Cond.methodLink RX5 157 yX5_isNumber, Cond.instanceMethod yX5_isNumber, Cond.selects RX5 yX5_isNumber yX5_isNumber, Cond.initialized RX5, Cond.code yX5_isNumber cX5_isNumber 1 (some .boolean), Cond.fieldLink RX5 35 "PictureRowsModel" "latest" "I", Cond.methodLink RX5 148 yX5_sort, Cond.instanceMethod yX5_sort, Cond.selects RX5 yX5_sort yX5_sort, Cond.code yX5_sort cX5_sort 4 (some .int), Cond.methodLink RX5 142 yX5_ofKind, Cond.instanceMethod yX5_ofKind, Cond.selects RX5 yX5_ofKind yX5_ofKind, Cond.code yX5_ofKind cX5_ofKind 4 (some .int), Cond.fieldLink RX5 29 "PictureRowsModel" "kinds" "[I", Cond.methodLink RX5 145 yX5_ofSign, Cond.instanceMethod yX5_ofSign, Cond.selects RX5 yX5_ofSign yX5_ofSign, Cond.code yX5_ofSign cX5_ofSign 4 (some .int), Cond.fieldLink RX5 26 "PictureRowsModel" "signs" "[I", Cond.methodLink RX5 160 yX5_digitsOf, Cond.instanceMethod yX5_digitsOf, Cond.selects RX5 yX5_digitsOf yX5_digitsOf]
def wsX5_digits_r2 : List Cond := [Cond.code yX5_digitsOf cX5_digitsOf 5 (some .int), Cond.methodLink RX5 151 yX5_point, Cond.instanceMethod yX5_point, Cond.selects RX5 yX5_point yX5_point, Cond.code yX5_point cX5_point 2 (some .int), Cond.methodLink RX5 154 yX5_isDigitOf, Cond.instanceMethod yX5_isDigitOf, Cond.selects RX5 yX5_isDigitOf yX5_isDigitOf, Cond.code yX5_isDigitOf cX5_isDigitOf 5 (some .boolean)]
def wsX5_digits : List Cond := .code yX5_digits cX5_digits 2 (some .int) :: ((wsX5_digits_r1 ++ wsX5_digits_r2) ++ wsX50)
def wsX5_scale_r1 : List Cond := [Cond.fieldLink RX5 69 "PictureRowsModel" "thrown" "I", Cond.methodLink RX5 157 yX5_isNumber, Cond.instanceMethod yX5_isNumber, Cond.selects RX5 yX5_isNumber yX5_isNumber, Cond.initialized RX5, Cond.code yX5_isNumber cX5_isNumber 1 (some .boolean), Cond.fieldLink RX5 35 "PictureRowsModel" "latest" "I", Cond.methodLink RX5 148 yX5_sort, Cond.instanceMethod yX5_sort, Cond.selects RX5 yX5_sort yX5_sort, Cond.code yX5_sort cX5_sort 4 (some .int), Cond.methodLink RX5 142 yX5_ofKind, Cond.instanceMethod yX5_ofKind, Cond.selects RX5 yX5_ofKind yX5_ofKind, Cond.code yX5_ofKind cX5_ofKind 4 (some .int), Cond.fieldLink RX5 29 "PictureRowsModel" "kinds" "[I", Cond.methodLink RX5 145 yX5_ofSign, Cond.instanceMethod yX5_ofSign, Cond.selects RX5 yX5_ofSign yX5_ofSign, Cond.code yX5_ofSign cX5_ofSign 4 (some .int), Cond.fieldLink RX5 26 "PictureRowsModel" "signs" "[I", Cond.methodLink RX5 160 yX5_digitsOf, Cond.instanceMethod yX5_digitsOf, Cond.selects RX5 yX5_digitsOf yX5_digitsOf]
def wsX5_scale_r2 : List Cond := [Cond.code yX5_digitsOf cX5_digitsOf 5 (some .int), Cond.methodLink RX5 151 yX5_point, Cond.instanceMethod yX5_point, Cond.selects RX5 yX5_point yX5_point, Cond.code yX5_point cX5_point 2 (some .int), Cond.methodLink RX5 154 yX5_isDigitOf, Cond.instanceMethod yX5_isDigitOf, Cond.selects RX5 yX5_isDigitOf yX5_isDigitOf, Cond.code yX5_isDigitOf cX5_isDigitOf 5 (some .boolean)]
def wsX5_scale : List Cond := .code yX5_scale cX5_scale 1 (some .int) :: ((wsX5_scale_r1 ++ wsX5_scale_r2) ++ wsX50)
def wsX5_follows : List Cond := .code yX5_follows cX5_follows 4 (some .boolean) :: ([.fieldLink RX5 69 "PictureRowsModel" "thrown" "I", .fieldLink RX5 60 "PictureRowsModel" "table" "[I"] ++ wsX50)
def wsX5_currency : List Cond := .code yX5_currency cX5_currency 6 (some .int) :: ([.fieldLink RX5 69 "PictureRowsModel" "thrown" "I", .fieldLink RX5 13 "PictureRowsModel" "money" "I", .methodLink RX5 79 yX5_great, .static yX5_great, .initialized RX5, .code yX5_great cX5_great 1 (some .int)] ++ wsX50)
def wsX5_at : List Cond := .code yX5_at cX5_at 2 (some .int) :: ([.fieldLink RX5 69 "PictureRowsModel" "thrown" "I", .fieldLink RX5 35 "PictureRowsModel" "latest" "I", .fieldLink RX5 133 "PictureRowsModel" "shown" "I", .fieldLink RX5 32 "PictureRowsModel" "letters" "[I"] ++ wsX50)
def wsX5_isIdle : List Cond := .code yX5_isIdle cX5_isIdle 8 (some .boolean) :: ([])
def wsX5_bare : List Cond := .code yX5_bare cX5_bare 8 (some .int) :: ([.methodLink RX5 163 yX5_isIdle, .static yX5_isIdle, .initialized RX5, .code yX5_isIdle cX5_isIdle 8 (some .boolean)])
def wsX5_same : List Cond := .code yX5_same cX5_same 5 (some .boolean) :: ([.fieldLink RX5 69 "PictureRowsModel" "thrown" "I", .fieldLink RX5 35 "PictureRowsModel" "latest" "I", .fieldLink RX5 136 "PictureRowsModel" "kept" "I", .fieldLink RX5 26 "PictureRowsModel" "signs" "[I", .fieldLink RX5 29 "PictureRowsModel" "kinds" "[I", .fieldLink RX5 63 "PictureRowsModel" "mine" "[I", .fieldLink RX5 39 "PictureRowsModel" "rows" "[I", .fieldLink RX5 42 "PictureRowsModel" "rowKinds" "[I", .fieldLink RX5 45 "PictureRowsModel" "sizes" "[I", .fieldLink RX5 66 "PictureRowsModel" "its" "[I", .methodLink RX5 167 yX5_bare, .static yX5_bare, .initialized RX5, .code yX5_bare cX5_bare 8 (some .int), .methodLink RX5 163 yX5_isIdle, .static yX5_isIdle, .code yX5_isIdle cX5_isIdle 8 (some .boolean)] ++ wsX50)
def wsX5_insertion : List Cond := .code yX5_insertion cX5_insertion 2 (some .int) :: ([.fieldLink RX5 69 "PictureRowsModel" "thrown" "I", .fieldLink RX5 35 "PictureRowsModel" "latest" "I", .methodLink RX5 145 yX5_ofSign, .instanceMethod yX5_ofSign, .selects RX5 yX5_ofSign yX5_ofSign, .initialized RX5, .code yX5_ofSign cX5_ofSign 4 (some .int), .fieldLink RX5 26 "PictureRowsModel" "signs" "[I", .methodLink RX5 142 yX5_ofKind, .instanceMethod yX5_ofKind, .selects RX5 yX5_ofKind yX5_ofKind, .code yX5_ofKind cX5_ofKind 4 (some .int), .fieldLink RX5 29 "PictureRowsModel" "kinds" "[I"] ++ wsX50)
def wsJx00060_init_a7421 : List Cond := .code yJx00060_init_a7421 cJx00060_init_a7421 2 none :: ([])
def wsJ9_max_7cf53 : List Cond := .code yJ9_max_7cf53 cJ9_max_7cf53 2 (some .int) :: ([])
def wsJ9_min_7cf53 : List Cond := .code yJ9_min_7cf53 cJ9_min_7cf53 2 (some .int) :: ([])
def wsL_follows : List Cond := .codeWith yL_follows cL_follows 5 (some .int) [(0, 17, 20, 13)] :: ([.methodLink RL 7 yX4_follows, .instanceMethod yX4_follows, .selects RX4 yX4_follows yX4_follows, .initialized RX4, .code yX4_follows cX4_follows 3 (some .boolean), .classLink RX4 81 RJx00060, .instantiable RJx00060 6, .initialized RJx00060, .fieldLink RX4 88 "PictureRows" "MAY_COME_BEHIND" "[I", .methodLink RX4 77 yX4_isKind, .static yX4_isKind, .code yX4_isKind cX4_isKind 1 (some .boolean), .methodLink RX4 92 yX4_holds, .static yX4_holds, .code yX4_holds cX4_holds 2 (some .boolean)] ++ wsJx000600)
def wsL_law_r1 : List Cond := [Cond.classLink RL 8 RX4, Cond.instantiable RX4 6, Cond.initialized RX4, Cond.classLink RL 16 RX5, Cond.instantiable RX5 24, Cond.initialized RX5, Cond.arrayClass .long, Cond.methodLink RL 15 yX4_init, Cond.instanceMethod yX4_init, Cond.code yX4_init cX4_init 1 none, Cond.methodLink RX4 3 objectInit, Cond.instanceMethod objectInit, Cond.code objectInit ⟨#[0xb1]⟩ 1 none, Cond.classLink RX4 9 RX3, Cond.instantiable RX3 2, Cond.initialized RX3, Cond.fieldLink RX4 12 "PictureRows" "text" "LPictureRows$Text;", Cond.classLink RX4 16 RX2, Cond.instantiable RX2 6, Cond.initialized RX2, Cond.fieldLink RX4 19 "PictureRows" "runs" "LPictureRows$Runs;", Cond.classLink RX4 23 RX1, Cond.fieldLink RX4 25 "PictureRows" "kept" "[LPictureRows$Picture;", Cond.fieldLink RX4 29 "PictureRows" "keptCount" "I"]
def wsL_law_r2 : List Cond := [Cond.fieldLink RX4 33 "PictureRows" "latest" "LPictureRows$Picture;", Cond.fieldLink RX4 37 "PictureRows" "currencySign" "I", Cond.instanceMethod yX3_init, Cond.code yX3_init cX3_init 1 none, Cond.methodLink RX3 3 objectInit, Cond.arrayClass .int, Cond.fieldLink RX3 9 "PictureRows$Text" "characters" "[I", Cond.fieldLink RX3 15 "PictureRows$Text" "length" "I", Cond.instanceMethod yX2_init, Cond.code yX2_init cX2_init 1 none, Cond.methodLink RX2 3 objectInit, Cond.fieldLink RX2 9 "PictureRows$Runs" "signs" "[I", Cond.fieldLink RX2 15 "PictureRows$Runs" "times" "[I", Cond.fieldLink RX2 18 "PictureRows$Runs" "places" "[I", Cond.fieldLink RX2 21 "PictureRows$Runs" "kinds" "[I", Cond.fieldLink RX2 24 "PictureRows$Runs" "digitCounts" "[I", Cond.fieldLink RX2 27 "PictureRows$Runs" "size" "I", Cond.methodLink RL 18 yX5_init, Cond.instanceMethod yX5_init, Cond.code yX5_init cX5_init 1 none, Cond.methodLink RX5 1 objectInit, Cond.fieldLink RX5 7 "PictureRowsModel" "text" "[I", Cond.fieldLink RX5 13 "PictureRowsModel" "money" "I", Cond.fieldLink RX5 17 "PictureRowsModel" "read" "[I"]
def wsL_law_r3 : List Cond := [Cond.fieldLink RX5 20 "PictureRowsModel" "place" "[I", Cond.fieldLink RX5 23 "PictureRowsModel" "kind" "[I", Cond.fieldLink RX5 26 "PictureRowsModel" "signs" "[I", Cond.fieldLink RX5 29 "PictureRowsModel" "kinds" "[I", Cond.fieldLink RX5 32 "PictureRowsModel" "letters" "[I", Cond.fieldLink RX5 35 "PictureRowsModel" "latest" "I", Cond.constant RX5 38 (408000), Cond.fieldLink RX5 39 "PictureRowsModel" "rows" "[I", Cond.fieldLink RX5 42 "PictureRowsModel" "rowKinds" "[I", Cond.fieldLink RX5 45 "PictureRowsModel" "sizes" "[I", Cond.constant RX5 48 (442327), Cond.constant RX5 49 (171991), Cond.constant RX5 50 (236775), Cond.constant RX5 51 (234455), Cond.constant RX5 52 (168151), Cond.constant RX5 53 (168711), Cond.constant RX5 54 (171031), Cond.constant RX5 55 (176151), Cond.constant RX5 56 (233472), Cond.constant RX5 57 (72339), Cond.constant RX5 58 (163856), Cond.constant RX5 59 (262145), Cond.fieldLink RX5 60 "PictureRowsModel" "table" "[I", Cond.fieldLink RX5 63 "PictureRowsModel" "mine" "[I"]
def wsL_law_r4 : List Cond := [Cond.fieldLink RX5 66 "PictureRowsModel" "its" "[I", Cond.methodLink RL 19 yX4_sign, Cond.instanceMethod yX4_sign, Cond.selects RX4 yX4_sign yX4_sign, Cond.code yX4_sign cX4_sign 2 none, Cond.methodLink RX4 40 yX3_append, Cond.instanceMethod yX3_append, Cond.selects RX3 yX3_append yX3_append, Cond.code yX3_append cX3_append 2 none, Cond.methodLink RL 23 yX5_sign, Cond.instanceMethod yX5_sign, Cond.selects RX5 yX5_sign yX5_sign, Cond.code yX5_sign cX5_sign 2 none, Cond.fieldLink RX5 69 "PictureRowsModel" "thrown" "I", Cond.fieldLink RX5 72 "PictureRowsModel" "length" "I", Cond.methodLink RL 24 yX4_read, Cond.instanceMethod yX4_read, Cond.selects RX4 yX4_read yX4_read, Cond.code yX4_read cX4_read 3 (some .int), Cond.instantiable RX1 10, Cond.initialized RX1, Cond.methodLink RX4 44 yX4_firstWrongPlace, Cond.instanceMethod yX4_firstWrongPlace, Cond.selects RX4 yX4_firstWrongPlace yX4_firstWrongPlace]
def wsL_law_r5 : List Cond := [Cond.code yX4_firstWrongPlace cX4_firstWrongPlace 2 (some .int), Cond.constant RX4 132 (278464), Cond.methodLink RX4 116 yX2_take, Cond.instanceMethod yX2_take, Cond.selects RX2 yX2_take yX2_take, Cond.code yX2_take cX2_take 9 (some .int), Cond.methodLink RX2 36 yX3_signAt, Cond.instanceMethod yX3_signAt, Cond.selects RX3 yX3_signAt yX3_signAt, Cond.code yX3_signAt cX3_signAt 6 (some .int), Cond.methodLink RX3 19 yX3_characterAt, Cond.instanceMethod yX3_characterAt, Cond.selects RX3 yX3_characterAt yX3_characterAt, Cond.code yX3_characterAt cX3_characterAt 2 (some .int), Cond.static yX4_greatOf, Cond.code yX4_greatOf cX4_greatOf 1 (some .int), Cond.methodLink RX3 28 yJ0_indexOf_0f7a4, Cond.instanceMethod yJ0_indexOf_0f7a4, Cond.selects RJ0 yJ0_indexOf_0f7a4 yJ0_indexOf_0f7a4, Cond.initialized RJ0, Cond.code yJ0_indexOf_0f7a4 cJ0_indexOf_0f7a4 2 (some .int), Cond.methodLink RJ0 633 yJ0_indexOf_7cf53, Cond.instanceMethod yJ0_indexOf_7cf53, Cond.selects RJ0 yJ0_indexOf_7cf53 yJ0_indexOf_7cf53]
def wsL_law_r6 : List Cond := [Cond.code yJ0_indexOf_7cf53 cJ0_indexOf_7cf53 3 (some .int), Cond.fieldLink RJ0 9 "java/lang/String" "value" "[B", Cond.methodLink RJ0 492 yJ0_isLatin1_aae02, Cond.instanceMethod yJ0_isLatin1_aae02, Cond.selects RJ0 yJ0_isLatin1_aae02 yJ0_isLatin1_aae02, Cond.code yJ0_isLatin1_aae02 cJ0_isLatin1_aae02 1 (some .boolean), Cond.fieldLink RJ0 38 "java/lang/String" "COMPACT_STRINGS" "Z", Cond.fieldLink RJ0 15 "java/lang/String" "coder" "B", Cond.methodLink RJ0 505 yJ0_length_8abf5, Cond.instanceMethod yJ0_length_8abf5, Cond.selects RJ0 yJ0_length_8abf5 yJ0_length_8abf5, Cond.code yJ0_length_8abf5 cJ0_length_8abf5 1 (some .int), Cond.methodLink RJ0 335 yJ0_coder_7d493, Cond.instanceMethod yJ0_coder_7d493, Cond.selects RJ0 yJ0_coder_7d493 yJ0_coder_7d493, Cond.code yJ0_coder_7d493 cJ0_coder_7d493 1 (some .byte), Cond.methodLink RJ0 637 yJ1_indexOf_4cfef, Cond.static yJ1_indexOf_4cfef, Cond.initialized RJ1, Cond.code yJ1_indexOf_4cfef cJ1_indexOf_4cfef 4 (some .int), Cond.methodLink RJ1 92 Lib.Math.max.name, Cond.static Lib.Math.max.name, Cond.initialized "java/lang/Math", Cond.code Lib.Math.max.name Lib.Math.max.code 2 (some .int)]
def wsL_law_r7 : List Cond := [Cond.methodLink RJ1 38 Lib.Math.min.name, Cond.static Lib.Math.min.name, Cond.code Lib.Math.min.name Lib.Math.min.code 2 (some .int), Cond.methodLink RJ1 88 yJ1_canEncode_9a6ad, Cond.static yJ1_canEncode_9a6ad, Cond.code yJ1_canEncode_9a6ad cJ1_canEncode_9a6ad 1 (some .boolean), Cond.methodLink RJ1 95 yJ1_indexOfChar_4cfef, Cond.static yJ1_indexOfChar_4cfef, Cond.code yJ1_indexOfChar_4cfef cJ1_indexOfChar_4cfef 6 (some .int), Cond.methodLink RJ0 640 yJ2_indexOf_4cfef, Cond.static yJ2_indexOf_4cfef, Cond.initialized RJ2, Cond.code yJ2_indexOf_4cfef cJ2_indexOf_4cfef 4 (some .int), Cond.methodLink RJ2 224 Lib.Math.max.name, Cond.methodLink RJ2 183 Lib.Math.min.name, Cond.constant RJ2 227 (65536), Cond.methodLink RJ2 228 yJ2_indexOfChar_4cfef, Cond.static yJ2_indexOfChar_4cfef, Cond.code yJ2_indexOfChar_4cfef cJ2_indexOfChar_4cfef 4 (some .int), Cond.methodLink RJ2 96 yJ2_checkBoundsBeginEnd_d044e, Cond.static yJ2_checkBoundsBeginEnd_d044e, Cond.code yJ2_checkBoundsBeginEnd_d044e cJ2_checkBoundsBeginEnd_d044e 3 none, Cond.methodLink RJ2 48 yJ2_length_9d52b, Cond.static yJ2_length_9d52b]
def wsL_law_r8 : List Cond := [Cond.code yJ2_length_9d52b cJ2_length_9d52b 1 (some .int), Cond.methodLink RJ2 241 yJ0_checkBoundsBeginEnd_23922, Cond.static yJ0_checkBoundsBeginEnd_23922, Cond.code yJ0_checkBoundsBeginEnd_23922 cJ0_checkBoundsBeginEnd_23922 3 none, Cond.fieldLink RJ0 1053 "jdk/internal/util/Preconditions" "SIOOBE_FORMATTER" "Ljava/util/function/BiFunction;", Cond.methodLink RJ0 1062 yJ3_checkFromToIndex_8c36e, Cond.static yJ3_checkFromToIndex_8c36e, Cond.initialized RJ3, Cond.code yJ3_checkFromToIndex_8c36e cJ3_checkFromToIndex_8c36e 4 (some .int), Cond.methodLink RJ2 244 yJ2_indexOfCharUnsafe_4cfef, Cond.static yJ2_indexOfCharUnsafe_4cfef, Cond.code yJ2_indexOfCharUnsafe_4cfef cJ2_indexOfCharUnsafe_4cfef 5 (some .int), Cond.methodLink RJ2 71 yJ2_getChar_3b067, Cond.static yJ2_getChar_3b067, Cond.code yJ2_getChar_3b067 cJ2_getChar_3b067 2 (some .char), Cond.fieldLink RJ2 44 "java/lang/StringUTF16" "$assertionsDisabled" "Z", Cond.fieldLink RJ2 59 "java/lang/StringUTF16" "HI_BYTE_SHIFT" "I", Cond.fieldLink RJ2 63 "java/lang/StringUTF16" "LO_BYTE_SHIFT" "I", Cond.methodLink RJ2 232 yJ2_indexOfSupplementary_4cfef, Cond.static yJ2_indexOfSupplementary_4cfef, Cond.code yJ2_indexOfSupplementary_4cfef cJ2_indexOfSupplementary_4cfef 7 (some .int), Cond.methodLink RJ2 164 yJ11_isValidCodePoint_9a6ad, Cond.static yJ11_isValidCodePoint_9a6ad, Cond.initialized RJ11]
def wsL_law_r9 : List Cond := [Cond.code yJ11_isValidCodePoint_9a6ad cJ11_isValidCodePoint_9a6ad 2 (some .boolean), Cond.methodLink RJ2 157 yJ11_highSurrogate_5068e, Cond.static yJ11_highSurrogate_5068e, Cond.code yJ11_highSurrogate_5068e cJ11_highSurrogate_5068e 1 (some .char), Cond.constant RJ11 110 (55232), Cond.methodLink RJ2 161 yJ11_lowSurrogate_5068e, Cond.static yJ11_lowSurrogate_5068e, Cond.code yJ11_lowSurrogate_5068e cJ11_lowSurrogate_5068e 1 (some .char), Cond.constant RJ11 76 (56320), Cond.static yX4_widthOf, Cond.code yX4_widthOf cX4_widthOf 1 (some .int), Cond.methodLink RX2 44 yX3_characterAt, Cond.methodLink RX2 47 yX3_closeOf, Cond.instanceMethod yX3_closeOf, Cond.selects RX3 yX3_closeOf yX3_closeOf, Cond.code yX3_closeOf cX3_closeOf 4 (some .int), Cond.methodLink RX2 50 yX3_numberBetween, Cond.instanceMethod yX3_numberBetween, Cond.selects RX3 yX3_numberBetween yX3_numberBetween, Cond.code yX3_numberBetween cX3_numberBetween 5 (some .int), Cond.methodLink RX2 53 yX2_add, Cond.instanceMethod yX2_add, Cond.selects RX2 yX2_add yX2_add, Cond.code yX2_add cX2_add 4 none]
def wsL_law_r10 : List Cond := [Cond.methodLink RX4 120 yX2_findKinds, Cond.instanceMethod yX2_findKinds, Cond.selects RX2 yX2_findKinds yX2_findKinds, Cond.code yX2_findKinds cX2_findKinds 8 none, Cond.methodLink RX2 57 yX2_countOf, Cond.instanceMethod yX2_countOf, Cond.selects RX2 yX2_countOf yX2_countOf, Cond.code yX2_countOf cX2_countOf 4 (some .int), Cond.methodLink RX2 60 yX2_kindOf, Cond.static yX2_kindOf, Cond.code yX2_kindOf cX2_kindOf 4 (some .int), Cond.constant RX2 64 (98308), Cond.constant RX2 65 (-114729), Cond.methodLink RX4 123 yX2_findDigits, Cond.instanceMethod yX2_findDigits, Cond.selects RX2 yX2_findDigits yX2_findDigits, Cond.code yX2_findDigits cX2_findDigits 3 none, Cond.constant RX2 66 (200896), Cond.static yX4_holds, Cond.code yX4_holds cX4_holds 2 (some .boolean), Cond.methodLink RX2 71 yX2_standsAhead, Cond.instanceMethod yX2_standsAhead, Cond.selects RX2 yX2_standsAhead yX2_standsAhead, Cond.code yX2_standsAhead cX2_standsAhead 4 (some .boolean)]
def wsL_law_r11 : List Cond := [Cond.methodLink RX4 126 yX2_firstMisplaced, Cond.instanceMethod yX2_firstMisplaced, Cond.selects RX2 yX2_firstMisplaced yX2_firstMisplaced, Cond.code yX2_firstMisplaced cX2_firstMisplaced 6 (some .int), Cond.constant RX2 74 (524287), Cond.static yX4_isKind, Cond.code yX4_isKind cX4_isKind 1 (some .boolean), Cond.methodLink RX2 82 yX2_hasRivalAhead, Cond.instanceMethod yX2_hasRivalAhead, Cond.selects RX2 yX2_hasRivalAhead yX2_hasRivalAhead, Cond.code yX2_hasRivalAhead cX2_hasRivalAhead 2 (some .boolean), Cond.static yX4_signsCounted, Cond.code yX4_signsCounted cX4_signsCounted 2 (some .int), Cond.methodLink RX4 146 yX4_widthOf, Cond.methodLink RX4 129 yX2_kindsPresent, Cond.instanceMethod yX2_kindsPresent, Cond.selects RX2 yX2_kindsPresent yX2_kindsPresent, Cond.code yX2_kindsPresent cX2_kindsPresent 3 (some .int), Cond.methodLink RX4 48 yX3_clear, Cond.instanceMethod yX3_clear, Cond.selects RX3 yX3_clear yX3_clear, Cond.code yX3_clear cX3_clear 1 none, Cond.methodLink RX4 51 yX1_init, Cond.instanceMethod yX1_init]
def wsL_law_r12 : List Cond := [Cond.code yX1_init cX1_init 8 none, Cond.methodLink RX1 3 objectInit, Cond.methodLink RX1 15 Lib.Math.max.name, Cond.fieldLink RX1 38 "PictureRows$Picture" "signs" "[I", Cond.fieldLink RX1 44 "PictureRows$Picture" "times" "[I", Cond.fieldLink RX1 48 "PictureRows$Picture" "kinds" "[I", Cond.fieldLink RX1 49 "PictureRows$Picture" "currencySign" "I", Cond.fieldLink RX1 55 "PictureRows$Picture" "signCount" "I", Cond.fieldLink RX1 62 "PictureRows$Picture" "category" "I", Cond.fieldLink RX1 68 "PictureRows$Picture" "digitsAhead" "I", Cond.fieldLink RX1 71 "PictureRows$Picture" "digitsBehind" "I", Cond.fieldLink RX1 81 "PictureRows$Picture" "scale" "I", Cond.constant RX1 84 (196608), Cond.classLink RX1 85 RX0, Cond.instantiable RX0 3, Cond.initialized RX0, Cond.fieldLink RX1 90 "PictureRows$Picture" "effect" "LPictureRows$Effect;", Cond.methodLink RX1 21 yX2_kindsPresent, Cond.methodLink RX1 25 yX2_pointRun, Cond.instanceMethod yX2_pointRun, Cond.selects RX2 yX2_pointRun yX2_pointRun, Cond.code yX2_pointRun cX2_pointRun 2 (some .int), Cond.methodLink RX1 32 yJ7_copyOf_59c91, Cond.static yJ7_copyOf_59c91]
def wsL_law_r13 : List Cond := [Cond.initialized RJ7, Cond.code yJ7_copyOf_59c91 cJ7_copyOf_59c91 3 (some (.array .int)), Cond.methodLink RJ7 316 ⟨"[I", "clone", "()Ljava/lang/Object;"⟩, Cond.sameMethod "[I" "java/lang/Object" "clone" "()Ljava/lang/Object;", Cond.native ⟨"java/lang/Object", "clone", "()Ljava/lang/Object;"⟩, Cond.instanceMethod ⟨"java/lang/Object", "clone", "()Ljava/lang/Object;"⟩, Cond.selects "[I" ⟨"[I", "clone", "()Ljava/lang/Object;"⟩ ⟨"java/lang/Object", "clone", "()Ljava/lang/Object;"⟩, Cond.classLink RJ7 317 "[I", Cond.methodLink RJ7 304 Lib.Math.min.name, Cond.methodLink RJ7 150 arraycopyName, Cond.native arraycopyName, Cond.static arraycopyName, Cond.initialized "java/lang/System", Cond.methodLink RX1 52 yX2_allSignsCounted, Cond.instanceMethod yX2_allSignsCounted, Cond.selects RX2 yX2_allSignsCounted yX2_allSignsCounted, Cond.code yX2_allSignsCounted cX2_allSignsCounted 3 (some .int), Cond.methodLink RX1 58 yX2_categoryOf, Cond.instanceMethod yX2_categoryOf, Cond.selects RX2 yX2_categoryOf yX2_categoryOf, Cond.code yX2_categoryOf cX2_categoryOf 2 (some .int), Cond.constant RX2 93 (-249857), Cond.methodLink RX1 65 yX2_digitsIn, Cond.instanceMethod yX2_digitsIn]
def wsL_law_r14 : List Cond := [Cond.selects RX2 yX2_digitsIn yX2_digitsIn, Cond.code yX2_digitsIn cX2_digitsIn 5 (some .int), Cond.methodLink RX2 88 Lib.Math.max.name, Cond.methodLink RX1 87 yX0_init, Cond.instanceMethod yX0_init, Cond.code yX0_init cX0_init 2 none, Cond.methodLink RX0 3 objectInit, Cond.fieldLink RX0 9 "PictureRows$Effect" "size" "I", Cond.methodLink RX0 15 Lib.Math.max.name, Cond.fieldLink RX0 21 "PictureRows$Effect" "signs" "[I", Cond.fieldLink RX0 25 "PictureRows$Effect" "times" "[I", Cond.methodLink RX1 94 yX0_add, Cond.instanceMethod yX0_add, Cond.selects RX0 yX0_add yX0_add, Cond.code yX0_add cX0_add 4 none, Cond.methodLink RX4 54 yX4_keep, Cond.instanceMethod yX4_keep, Cond.selects RX4 yX4_keep yX4_keep, Cond.code yX4_keep cX4_keep 2 none, Cond.methodLink RL 28 yX5_read, Cond.instanceMethod yX5_read, Cond.selects RX5 yX5_read yX5_read, Cond.code yX5_read cX5_read 4 (some .int), Cond.fieldLink RX5 85 "PictureRowsModel" "many" "I"]
def wsL_law_r15 : List Cond := [Cond.fieldLink RX5 130 "PictureRowsModel" "moneyOf" "I", Cond.fieldLink RX5 133 "PictureRowsModel" "shown" "I", Cond.fieldLink RX5 136 "PictureRowsModel" "kept" "I", Cond.methodLink RX5 120 yX5_scan, Cond.instanceMethod yX5_scan, Cond.selects RX5 yX5_scan yX5_scan, Cond.code yX5_scan cX5_scan 6 (some .int), Cond.fieldLink RX5 88 "PictureRowsModel" "pluses" "I", Cond.fieldLink RX5 91 "PictureRowsModel" "minuses" "I", Cond.fieldLink RX5 94 "PictureRowsModel" "moneys" "I", Cond.methodLink RX5 97 yX5_signAt, Cond.instanceMethod yX5_signAt, Cond.selects RX5 yX5_signAt yX5_signAt, Cond.code yX5_signAt cX5_signAt 5 (some .int), Cond.methodLink RX5 75 yX5_at0, Cond.instanceMethod yX5_at0, Cond.selects RX5 yX5_at0 yX5_at0, Cond.code yX5_at0 cX5_at0 2 (some .int), Cond.methodLink RX5 79 yX5_great, Cond.static yX5_great, Cond.code yX5_great cX5_great 1 (some .int), Cond.methodLink RX5 100 yX5_behindCount, Cond.instanceMethod yX5_behindCount, Cond.selects RX5 yX5_behindCount yX5_behindCount]
def wsL_law_r16 : List Cond := [Cond.code yX5_behindCount cX5_behindCount 4 (some .int), Cond.methodLink RX5 82 yX5_counted, Cond.instanceMethod yX5_counted, Cond.selects RX5 yX5_counted yX5_counted, Cond.code yX5_counted cX5_counted 4 (some .int), Cond.methodLink RX5 124 yX5_sorts, Cond.instanceMethod yX5_sorts, Cond.selects RX5 yX5_sorts yX5_sorts, Cond.code yX5_sorts cX5_sorts 10 none, Cond.methodLink RX5 127 yX5_wrong, Cond.instanceMethod yX5_wrong, Cond.selects RX5 yX5_wrong yX5_wrong, Cond.code yX5_wrong cX5_wrong 6 (some .int), Cond.methodLink RX5 103 yX5_isWrong, Cond.instanceMethod yX5_isWrong, Cond.selects RX5 yX5_isWrong yX5_isWrong, Cond.code yX5_isWrong cX5_isWrong 8 (some .boolean), Cond.methodLink RX5 107 yX5_isDigitFast, Cond.instanceMethod yX5_isDigitFast, Cond.selects RX5 yX5_isDigitFast yX5_isDigitFast, Cond.code yX5_isDigitFast cX5_isDigitFast 4 (some .boolean), Cond.methodLink RX5 117 yX5_isDigit, Cond.instanceMethod yX5_isDigit, Cond.selects RX5 yX5_isDigit yX5_isDigit]
def wsL_law_r17 : List Cond := [Cond.code yX5_isDigit cX5_isDigit 5 (some .boolean), Cond.methodLink RX5 110 yX5_width, Cond.static yX5_width, Cond.code yX5_width cX5_width 1 (some .int), Cond.methodLink RX5 113 yX5_hasMain, Cond.instanceMethod yX5_hasMain, Cond.selects RX5 yX5_hasMain yX5_hasMain, Cond.code yX5_hasMain cX5_hasMain 3 (some .boolean), Cond.methodLink RX5 139 yX5_keep, Cond.instanceMethod yX5_keep, Cond.selects RX5 yX5_keep yX5_keep, Cond.code yX5_keep cX5_keep 2 none, Cond.methodLink RL 29 yX4_category, Cond.instanceMethod yX4_category, Cond.selects RX4 yX4_category yX4_category, Cond.code yX4_category cX4_category 1 (some .int), Cond.methodLink RL 32 yX5_category, Cond.instanceMethod yX5_category, Cond.selects RX5 yX5_category yX5_category, Cond.code yX5_category cX5_category 1 (some .int), Cond.methodLink RX5 148 yX5_sort, Cond.instanceMethod yX5_sort, Cond.selects RX5 yX5_sort yX5_sort, Cond.code yX5_sort cX5_sort 4 (some .int)]
def wsL_law_r18 : List Cond := [Cond.methodLink RX5 142 yX5_ofKind, Cond.instanceMethod yX5_ofKind, Cond.selects RX5 yX5_ofKind yX5_ofKind, Cond.code yX5_ofKind cX5_ofKind 4 (some .int), Cond.methodLink RX5 145 yX5_ofSign, Cond.instanceMethod yX5_ofSign, Cond.selects RX5 yX5_ofSign yX5_ofSign, Cond.code yX5_ofSign cX5_ofSign 4 (some .int), Cond.methodLink RL 33 yX4_digits, Cond.instanceMethod yX4_digits, Cond.selects RX4 yX4_digits yX4_digits, Cond.code yX4_digits cX4_digits 2 (some .int), Cond.methodLink RX4 64 yX1_isNumber, Cond.instanceMethod yX1_isNumber, Cond.selects RX1 yX1_isNumber yX1_isNumber, Cond.code yX1_isNumber cX1_isNumber 1 (some .boolean), Cond.methodLink RL 37 yX5_digits, Cond.instanceMethod yX5_digits, Cond.selects RX5 yX5_digits yX5_digits, Cond.code yX5_digits cX5_digits 2 (some .int), Cond.methodLink RX5 157 yX5_isNumber, Cond.instanceMethod yX5_isNumber, Cond.selects RX5 yX5_isNumber yX5_isNumber, Cond.code yX5_isNumber cX5_isNumber 1 (some .boolean)]
def wsL_law_r19 : List Cond := [Cond.methodLink RX5 160 yX5_digitsOf, Cond.instanceMethod yX5_digitsOf, Cond.selects RX5 yX5_digitsOf yX5_digitsOf, Cond.code yX5_digitsOf cX5_digitsOf 5 (some .int), Cond.methodLink RX5 151 yX5_point, Cond.instanceMethod yX5_point, Cond.selects RX5 yX5_point yX5_point, Cond.code yX5_point cX5_point 2 (some .int), Cond.methodLink RX5 154 yX5_isDigitOf, Cond.instanceMethod yX5_isDigitOf, Cond.selects RX5 yX5_isDigitOf yX5_isDigitOf, Cond.code yX5_isDigitOf cX5_isDigitOf 5 (some .boolean), Cond.methodLink RL 38 yX4_scale, Cond.instanceMethod yX4_scale, Cond.selects RX4 yX4_scale yX4_scale, Cond.code yX4_scale cX4_scale 1 (some .int), Cond.methodLink RL 41 yX5_scale, Cond.instanceMethod yX5_scale, Cond.selects RX5 yX5_scale yX5_scale, Cond.code yX5_scale cX5_scale 1 (some .int), Cond.methodLink RL 42 yL_follows, Cond.static yL_follows, Cond.initialized RL, Cond.codeWith yL_follows cL_follows 5 (some .int) [(0, 17, 20, 13)]]
def wsL_law_r20 : List Cond := [Cond.methodLink RL 7 yX4_follows, Cond.instanceMethod yX4_follows, Cond.selects RX4 yX4_follows yX4_follows, Cond.code yX4_follows cX4_follows 3 (some .boolean), Cond.classLink RX4 81 RJx00060, Cond.instantiable RJx00060 6, Cond.initialized RJx00060, Cond.fieldLink RX4 88 "PictureRows" "MAY_COME_BEHIND" "[I", Cond.methodLink RX4 77 yX4_isKind, Cond.methodLink RX4 92 yX4_holds, Cond.methodLink RL 47 yX5_follows, Cond.instanceMethod yX5_follows, Cond.selects RX5 yX5_follows yX5_follows, Cond.code yX5_follows cX5_follows 4 (some .boolean), Cond.methodLink RL 48 yX5_thrown, Cond.instanceMethod yX5_thrown, Cond.selects RX5 yX5_thrown yX5_thrown, Cond.code yX5_thrown cX5_thrown 1 (some .int), Cond.methodLink RL 51 yX4_currency, Cond.instanceMethod yX4_currency, Cond.selects RX4 yX4_currency yX4_currency, Cond.code yX4_currency cX4_currency 3 (some .int), Cond.methodLink RX4 96 yX4_canBeCurrency, Cond.static yX4_canBeCurrency]
def wsL_law_r21 : List Cond := [Cond.code yX4_canBeCurrency cX4_canBeCurrency 1 (some .boolean), Cond.methodLink RX4 138 yX4_greatOf, Cond.methodLink RX4 141 yJ0_indexOf_0f7a4, Cond.methodLink RL 54 yX5_currency, Cond.instanceMethod yX5_currency, Cond.selects RX5 yX5_currency yX5_currency, Cond.code yX5_currency cX5_currency 6 (some .int), Cond.methodLink RL 55 yX4_at, Cond.instanceMethod yX4_at, Cond.selects RX4 yX4_at yX4_at, Cond.code yX4_at cX4_at 2 (some .int), Cond.methodLink RX4 99 yX1_characterAt, Cond.instanceMethod yX1_characterAt, Cond.selects RX1 yX1_characterAt yX1_characterAt, Cond.code yX1_characterAt cX1_characterAt 5 (some .int), Cond.methodLink RX1 101 yX1_letterOf, Cond.instanceMethod yX1_letterOf, Cond.selects RX1 yX1_letterOf yX1_letterOf, Cond.code yX1_letterOf cX1_letterOf 3 (some .int), Cond.methodLink RL 58 yX5_at, Cond.instanceMethod yX5_at, Cond.selects RX5 yX5_at yX5_at, Cond.code yX5_at cX5_at 2 (some .int), Cond.methodLink RL 59 yX4_same]
def wsL_law_r22 : List Cond := [Cond.instanceMethod yX4_same, Cond.selects RX4 yX4_same yX4_same, Cond.code yX4_same cX4_same 3 (some .boolean), Cond.methodLink RX4 107 yX0_equalTo, Cond.instanceMethod yX0_equalTo, Cond.selects RX0 yX0_equalTo yX0_equalTo, Cond.code yX0_equalTo cX0_equalTo 3 (some .boolean), Cond.methodLink RX0 28 yX0_signOf, Cond.instanceMethod yX0_signOf, Cond.selects RX0 yX0_signOf yX0_signOf, Cond.code yX0_signOf cX0_signOf 2 (some .int), Cond.methodLink RX0 32 yX0_timesOf, Cond.instanceMethod yX0_timesOf, Cond.selects RX0 yX0_timesOf yX0_timesOf, Cond.code yX0_timesOf cX0_timesOf 2 (some .int), Cond.methodLink RL 63 yX5_same, Cond.instanceMethod yX5_same, Cond.selects RX5 yX5_same yX5_same, Cond.code yX5_same cX5_same 5 (some .boolean), Cond.methodLink RX5 167 yX5_bare, Cond.static yX5_bare, Cond.code yX5_bare cX5_bare 8 (some .int), Cond.methodLink RX5 163 yX5_isIdle, Cond.static yX5_isIdle]
def wsL_law_r23 : List Cond := [Cond.code yX5_isIdle cX5_isIdle 8 (some .boolean), Cond.methodLink RL 64 yX4_insertion, Cond.instanceMethod yX4_insertion, Cond.selects RX4 yX4_insertion yX4_insertion, Cond.code yX4_insertion cX4_insertion 2 (some .int), Cond.methodLink RX4 113 yX1_insertionsOf, Cond.instanceMethod yX1_insertionsOf, Cond.selects RX1 yX1_insertionsOf yX1_insertionsOf, Cond.code yX1_insertionsOf cX1_insertionsOf 2 (some .int), Cond.methodLink RX1 104 yX1_countOf, Cond.instanceMethod yX1_countOf, Cond.selects RX1 yX1_countOf yX1_countOf, Cond.code yX1_countOf cX1_countOf 4 (some .int), Cond.methodLink RX1 105 yX1_countOfKind, Cond.instanceMethod yX1_countOfKind, Cond.selects RX1 yX1_countOfKind yX1_countOfKind, Cond.code yX1_countOfKind cX1_countOfKind 4 (some .int), Cond.methodLink RL 67 yX5_insertion, Cond.instanceMethod yX5_insertion, Cond.selects RX5 yX5_insertion yX5_insertion, Cond.code yX5_insertion cX5_insertion 2 (some .int)]
def wsL_law : List Cond := (wsL_law_r1 ++ (wsL_law_r2 ++ (wsL_law_r3 ++ (wsL_law_r4 ++ (wsL_law_r5 ++ (wsL_law_r6 ++ (wsL_law_r7 ++ (wsL_law_r8 ++ (wsL_law_r9 ++ (wsL_law_r10 ++ (wsL_law_r11 ++ (wsL_law_r12 ++ (wsL_law_r13 ++ (wsL_law_r14 ++ (wsL_law_r15 ++ (wsL_law_r16 ++ (wsL_law_r17 ++ (wsL_law_r18 ++ (wsL_law_r19 ++ (wsL_law_r20 ++ (wsL_law_r21 ++ (wsL_law_r22 ++ wsL_law_r23)))))))))))))))))))))) ++ wsX40 ++ wsX50 ++ wsX30 ++ wsX20 ++ wsX10 ++ wsX00 ++ wsJx000600 ++ ([] : List Cond)
abbrev vwCl : List vw_C := [(RJx00060, TJx00060, 6), (RX0, TX0, 3), (RX1, TX1, 10), (RX2, TX2, 6), (RX3, TX3, 2), (RX4, TX4, 6), (RX5, TX5, 24)]
end
section
theorem dJx00060_init_a7421_0 : decode cJx00060_init_a7421 0 = .ok (.aload_n 0, 1) := by decide +kernel
theorem dJx00060_init_a7421_1 : decode cJx00060_init_a7421 1 = .ok (.aload_n 1, 1) := by decide +kernel
theorem dJx00060_init_a7421_2 : decode cJx00060_init_a7421 2 = .ok (.invokespecial 7, 3) := by decide +kernel
theorem dJx00060_init_a7421_5 : decode cJx00060_init_a7421 5 = .ok (.return_, 1) := by decide +kernel
theorem dJ11_isValidCodePoint_9a6ad_0 : decode cJ11_isValidCodePoint_9a6ad 0 = .ok (.iload_n 0, 1) := by decide +kernel
theorem dJ11_isValidCodePoint_9a6ad_1 : decode cJ11_isValidCodePoint_9a6ad 1 = .ok (.bipush 16, 2) := by decide +kernel
theorem dJ11_isValidCodePoint_9a6ad_3 : decode cJ11_isValidCodePoint_9a6ad 3 = .ok (.iushr, 1) := by decide +kernel
theorem dJ11_isValidCodePoint_9a6ad_4 : decode cJ11_isValidCodePoint_9a6ad 4 = .ok (.istore_n 1, 1) := by decide +kernel
theorem dJ11_isValidCodePoint_9a6ad_5 : decode cJ11_isValidCodePoint_9a6ad 5 = .ok (.iload_n 1, 1) := by decide +kernel
theorem dJ11_isValidCodePoint_9a6ad_6 : decode cJ11_isValidCodePoint_9a6ad 6 = .ok (.bipush 17, 2) := by decide +kernel
theorem dJ11_isValidCodePoint_9a6ad_8 : decode cJ11_isValidCodePoint_9a6ad 8 = .ok (.if_icmp .ge 7, 3) := by decide +kernel
theorem dJ11_isValidCodePoint_9a6ad_11 : decode cJ11_isValidCodePoint_9a6ad 11 = .ok (.iconst 1, 1) := by decide +kernel
theorem dJ11_isValidCodePoint_9a6ad_12 : decode cJ11_isValidCodePoint_9a6ad 12 = .ok (.goto 4, 3) := by decide +kernel
theorem dJ11_isValidCodePoint_9a6ad_15 : decode cJ11_isValidCodePoint_9a6ad 15 = .ok (.iconst 0, 1) := by decide +kernel
theorem dJ11_isValidCodePoint_9a6ad_16 : decode cJ11_isValidCodePoint_9a6ad 16 = .ok (.ireturn, 1) := by decide +kernel
theorem dJ11_highSurrogate_5068e_0 : decode cJ11_highSurrogate_5068e 0 = .ok (.iload_n 0, 1) := by decide +kernel
theorem dJ11_highSurrogate_5068e_1 : decode cJ11_highSurrogate_5068e 1 = .ok (.bipush 10, 2) := by decide +kernel
theorem dJ11_highSurrogate_5068e_3 : decode cJ11_highSurrogate_5068e 3 = .ok (.iushr, 1) := by decide +kernel
theorem dJ11_highSurrogate_5068e_4 : decode cJ11_highSurrogate_5068e 4 = .ok (.ldc 110, 2) := by decide +kernel
theorem dJ11_highSurrogate_5068e_6 : decode cJ11_highSurrogate_5068e 6 = .ok (.iadd, 1) := by decide +kernel
theorem dJ11_highSurrogate_5068e_7 : decode cJ11_highSurrogate_5068e 7 = .ok (.i2c, 1) := by decide +kernel
theorem dJ11_highSurrogate_5068e_8 : decode cJ11_highSurrogate_5068e 8 = .ok (.ireturn, 1) := by decide +kernel
theorem dJ11_lowSurrogate_5068e_0 : decode cJ11_lowSurrogate_5068e 0 = .ok (.iload_n 0, 1) := by decide +kernel
theorem dJ11_lowSurrogate_5068e_1 : decode cJ11_lowSurrogate_5068e 1 = .ok (.sipush 1023, 3) := by decide +kernel
theorem dJ11_lowSurrogate_5068e_4 : decode cJ11_lowSurrogate_5068e 4 = .ok (.iand, 1) := by decide +kernel
theorem dJ11_lowSurrogate_5068e_5 : decode cJ11_lowSurrogate_5068e 5 = .ok (.ldc 76, 2) := by decide +kernel
theorem dJ11_lowSurrogate_5068e_7 : decode cJ11_lowSurrogate_5068e 7 = .ok (.iadd, 1) := by decide +kernel
theorem dJ11_lowSurrogate_5068e_8 : decode cJ11_lowSurrogate_5068e 8 = .ok (.i2c, 1) := by decide +kernel
theorem dJ11_lowSurrogate_5068e_9 : decode cJ11_lowSurrogate_5068e 9 = .ok (.ireturn, 1) := by decide +kernel
theorem dJ9_max_7cf53_0 : decode cJ9_max_7cf53 0 = .ok (.iload_n 0, 1) := by decide +kernel
theorem dJ9_max_7cf53_1 : decode cJ9_max_7cf53 1 = .ok (.iload_n 1, 1) := by decide +kernel
theorem dJ9_max_7cf53_2 : decode cJ9_max_7cf53 2 = .ok (.if_icmp .lt 7, 3) := by decide +kernel
theorem dJ9_max_7cf53_5 : decode cJ9_max_7cf53 5 = .ok (.iload_n 0, 1) := by decide +kernel
theorem dJ9_max_7cf53_6 : decode cJ9_max_7cf53 6 = .ok (.goto 4, 3) := by decide +kernel
theorem dJ9_max_7cf53_9 : decode cJ9_max_7cf53 9 = .ok (.iload_n 1, 1) := by decide +kernel
theorem dJ9_max_7cf53_10 : decode cJ9_max_7cf53 10 = .ok (.ireturn, 1) := by decide +kernel
theorem dJ9_min_7cf53_0 : decode cJ9_min_7cf53 0 = .ok (.iload_n 0, 1) := by decide +kernel
theorem dJ9_min_7cf53_1 : decode cJ9_min_7cf53 1 = .ok (.iload_n 1, 1) := by decide +kernel
theorem dJ9_min_7cf53_2 : decode cJ9_min_7cf53 2 = .ok (.if_icmp .gt 7, 3) := by decide +kernel
theorem dJ9_min_7cf53_5 : decode cJ9_min_7cf53 5 = .ok (.iload_n 0, 1) := by decide +kernel
theorem dJ9_min_7cf53_6 : decode cJ9_min_7cf53 6 = .ok (.goto 4, 3) := by decide +kernel
theorem dJ9_min_7cf53_9 : decode cJ9_min_7cf53 9 = .ok (.iload_n 1, 1) := by decide +kernel
theorem dJ9_min_7cf53_10 : decode cJ9_min_7cf53 10 = .ok (.ireturn, 1) := by decide +kernel
set_option maxRecDepth 20000 in
theorem ggJ0_length_8abf5_J0_coder_7d493 : GoodIn wsJ0_length_8abf5 wsJ0_coder_7d493 := goodIn_r _ [6, 7, 8] (by decide +kernel) (by decide +kernel)
set_option maxRecDepth 20000 in
theorem gJ0_length_8abf5_J0_coder_7d493 : GoodIn wsJ0_length_8abf5 (wsV RJ0 335 RJ0 yJ0_coder_7d493 wsJ0_coder_7d493) := goodIn_app (goodIn_of _ (by decide +kernel)) ggJ0_length_8abf5_J0_coder_7d493
theorem dJ0_length_8abf5_0 : decode cJ0_length_8abf5 0 = .ok (.aload_n 0, 1) := by decide +kernel
theorem dJ0_length_8abf5_1 : decode cJ0_length_8abf5 1 = .ok (.getfield 9, 3) := by decide +kernel
theorem dJ0_length_8abf5_4 : decode cJ0_length_8abf5 4 = .ok (.arraylength, 1) := by decide +kernel
theorem dJ0_length_8abf5_5 : decode cJ0_length_8abf5 5 = .ok (.aload_n 0, 1) := by decide +kernel
theorem dJ0_length_8abf5_6 : decode cJ0_length_8abf5 6 = .ok (.invokevirtual 335, 3) := by decide +kernel
theorem dJ0_length_8abf5_9 : decode cJ0_length_8abf5 9 = .ok (.ishr, 1) := by decide +kernel
theorem dJ0_length_8abf5_10 : decode cJ0_length_8abf5 10 = .ok (.ireturn, 1) := by decide +kernel
set_option maxRecDepth 20000 in
theorem ggJ0_indexOf_0f7a4_J0_indexOf_7cf53 : GoodIn wsJ0_indexOf_0f7a4 wsJ0_indexOf_7cf53 := goodIn_r _ [5, 6, 7, 8, 9, 4, 10, 11, 12, 13, 14, 15, 16, 17, 18, 19, 20, 21, 22, 23, 24, 25, 26, 27, 28, 29, 30, 31, 32, 33, 34, 35, 36, 37, 38, 39, 40, 41, 42, 43, 44, 45, 46, 47, 48, 49, 50, 51, 52, 53, 54, 55, 56, 57, 58, 59, 60, 61, 62, 63, 64, 65, 66, 67, 68, 69, 70, 71, 72, 73, 74, 75, 76, 77, 78, 79, 80, 81, 82, 83, 84, 85] (by decide +kernel) (by decide +kernel)
set_option maxRecDepth 20000 in
theorem gJ0_indexOf_0f7a4_J0_indexOf_7cf53 : GoodIn wsJ0_indexOf_0f7a4 (wsV RJ0 633 RJ0 yJ0_indexOf_7cf53 wsJ0_indexOf_7cf53) := goodIn_app (goodIn_of _ (by decide +kernel)) ggJ0_indexOf_0f7a4_J0_indexOf_7cf53
theorem dJ0_indexOf_0f7a4_0 : decode cJ0_indexOf_0f7a4 0 = .ok (.aload_n 0, 1) := by decide +kernel
theorem dJ0_indexOf_0f7a4_1 : decode cJ0_indexOf_0f7a4 1 = .ok (.iload_n 1, 1) := by decide +kernel
theorem dJ0_indexOf_0f7a4_2 : decode cJ0_indexOf_0f7a4 2 = .ok (.iconst 0, 1) := by decide +kernel
theorem dJ0_indexOf_0f7a4_3 : decode cJ0_indexOf_0f7a4 3 = .ok (.invokevirtual 633, 3) := by decide +kernel
theorem dJ0_indexOf_0f7a4_6 : decode cJ0_indexOf_0f7a4 6 = .ok (.ireturn, 1) := by decide +kernel
set_option maxRecDepth 20000 in
theorem ggJ0_indexOf_7cf53_J0_isLatin1_aae02 : GoodIn wsJ0_indexOf_7cf53 wsJ0_isLatin1_aae02 := goodIn_r _ [6, 7, 8] (by decide +kernel) (by decide +kernel)
set_option maxRecDepth 20000 in
theorem gJ0_indexOf_7cf53_J0_isLatin1_aae02 : GoodIn wsJ0_indexOf_7cf53 (wsV RJ0 492 RJ0 yJ0_isLatin1_aae02 wsJ0_isLatin1_aae02) := goodIn_app (goodIn_of _ (by decide +kernel)) ggJ0_indexOf_7cf53_J0_isLatin1_aae02
set_option maxRecDepth 20000 in
theorem ggJ0_indexOf_7cf53_J0_length_8abf5 : GoodIn wsJ0_indexOf_7cf53 wsJ0_length_8abf5 := goodIn_r _ [12, 1, 13, 14, 15, 5, 16, 7, 8] (by decide +kernel) (by decide +kernel)
set_option maxRecDepth 20000 in
theorem gJ0_indexOf_7cf53_J0_length_8abf5 : GoodIn wsJ0_indexOf_7cf53 (wsV RJ0 505 RJ0 yJ0_length_8abf5 wsJ0_length_8abf5) := goodIn_app (goodIn_of _ (by decide +kernel)) ggJ0_indexOf_7cf53_J0_length_8abf5
set_option maxRecDepth 20000 in
theorem ggJ0_indexOf_7cf53_J1_indexOf_4cfef : GoodIn wsJ0_indexOf_7cf53 wsJ1_indexOf_4cfef := goodIn_r _ [20, 21, 22, 23, 24, 25, 26, 27, 28, 29, 19, 30, 31, 32, 33] (by decide +kernel) (by decide +kernel)
set_option maxRecDepth 20000 in
theorem gJ0_indexOf_7cf53_J1_indexOf_4cfef : GoodIn wsJ0_indexOf_7cf53 (va_wsS RJ0 637 yJ1_indexOf_4cfef wsJ1_indexOf_4cfef) := goodIn_app (goodIn_of _ (by decide +kernel)) ggJ0_indexOf_7cf53_J1_indexOf_4cfef
set_option maxRecDepth 20000 in
theorem ggJ0_indexOf_7cf53_J2_indexOf_4cfef : GoodIn wsJ0_indexOf_7cf53 wsJ2_indexOf_4cfef := goodIn_r _ [37, 38, 22, 23, 24, 39, 26, 27, 40, 41, 42, 36, 43, 44, 45, 46, 47, 48, 49, 50, 51, 5, 52, 53, 54, 55, 56, 57, 58, 59, 60, 61, 62, 63, 64, 65, 66, 67, 68, 69, 70, 71, 72, 73, 74, 75, 76, 77, 78, 79, 80, 81] (by decide +kernel) (by decide +kernel)
set_option maxRecDepth 20000 in
theorem gJ0_indexOf_7cf53_J2_indexOf_4cfef : GoodIn wsJ0_indexOf_7cf53 (va_wsS RJ0 640 yJ2_indexOf_4cfef wsJ2_indexOf_4cfef) := goodIn_app (goodIn_of _ (by decide +kernel)) ggJ0_indexOf_7cf53_J2_indexOf_4cfef
theorem dJ0_indexOf_7cf53_0 : decode cJ0_indexOf_7cf53 0 = .ok (.aload_n 0, 1) := by decide +kernel
theorem dJ0_indexOf_7cf53_1 : decode cJ0_indexOf_7cf53 1 = .ok (.invokevirtual 492, 3) := by decide +kernel
theorem dJ0_indexOf_7cf53_4 : decode cJ0_indexOf_7cf53 4 = .ok (.ifCond .eq 19, 3) := by decide +kernel
theorem dJ0_indexOf_7cf53_7 : decode cJ0_indexOf_7cf53 7 = .ok (.aload_n 0, 1) := by decide +kernel
theorem dJ0_indexOf_7cf53_8 : decode cJ0_indexOf_7cf53 8 = .ok (.getfield 9, 3) := by decide +kernel
theorem dJ0_indexOf_7cf53_11 : decode cJ0_indexOf_7cf53 11 = .ok (.iload_n 1, 1) := by decide +kernel
theorem dJ0_indexOf_7cf53_12 : decode cJ0_indexOf_7cf53 12 = .ok (.iload_n 2, 1) := by decide +kernel
theorem dJ0_indexOf_7cf53_13 : decode cJ0_indexOf_7cf53 13 = .ok (.aload_n 0, 1) := by decide +kernel
theorem dJ0_indexOf_7cf53_14 : decode cJ0_indexOf_7cf53 14 = .ok (.invokevirtual 505, 3) := by decide +kernel
theorem dJ0_indexOf_7cf53_17 : decode cJ0_indexOf_7cf53 17 = .ok (.invokestatic 637, 3) := by decide +kernel
theorem dJ0_indexOf_7cf53_20 : decode cJ0_indexOf_7cf53 20 = .ok (.goto 16, 3) := by decide +kernel
theorem dJ0_indexOf_7cf53_23 : decode cJ0_indexOf_7cf53 23 = .ok (.aload_n 0, 1) := by decide +kernel
theorem dJ0_indexOf_7cf53_24 : decode cJ0_indexOf_7cf53 24 = .ok (.getfield 9, 3) := by decide +kernel
theorem dJ0_indexOf_7cf53_27 : decode cJ0_indexOf_7cf53 27 = .ok (.iload_n 1, 1) := by decide +kernel
theorem dJ0_indexOf_7cf53_28 : decode cJ0_indexOf_7cf53 28 = .ok (.iload_n 2, 1) := by decide +kernel
theorem dJ0_indexOf_7cf53_29 : decode cJ0_indexOf_7cf53 29 = .ok (.aload_n 0, 1) := by decide +kernel
theorem dJ0_indexOf_7cf53_30 : decode cJ0_indexOf_7cf53 30 = .ok (.invokevirtual 505, 3) := by decide +kernel
theorem dJ0_indexOf_7cf53_33 : decode cJ0_indexOf_7cf53 33 = .ok (.invokestatic 640, 3) := by decide +kernel
theorem dJ0_indexOf_7cf53_36 : decode cJ0_indexOf_7cf53 36 = .ok (.ireturn, 1) := by decide +kernel
theorem dJ0_coder_7d493_0 : decode cJ0_coder_7d493 0 = .ok (.getstatic 38, 3) := by decide +kernel
theorem dJ0_coder_7d493_3 : decode cJ0_coder_7d493 3 = .ok (.ifCond .eq 10, 3) := by decide +kernel
theorem dJ0_coder_7d493_6 : decode cJ0_coder_7d493 6 = .ok (.aload_n 0, 1) := by decide +kernel
theorem dJ0_coder_7d493_7 : decode cJ0_coder_7d493 7 = .ok (.getfield 15, 3) := by decide +kernel
theorem dJ0_coder_7d493_10 : decode cJ0_coder_7d493 10 = .ok (.goto 4, 3) := by decide +kernel
theorem dJ0_coder_7d493_13 : decode cJ0_coder_7d493 13 = .ok (.iconst 1, 1) := by decide +kernel
theorem dJ0_coder_7d493_14 : decode cJ0_coder_7d493 14 = .ok (.ireturn, 1) := by decide +kernel
theorem dJ0_isLatin1_aae02_0 : decode cJ0_isLatin1_aae02 0 = .ok (.getstatic 38, 3) := by decide +kernel
theorem dJ0_isLatin1_aae02_3 : decode cJ0_isLatin1_aae02 3 = .ok (.ifCond .eq 14, 3) := by decide +kernel
theorem dJ0_isLatin1_aae02_6 : decode cJ0_isLatin1_aae02 6 = .ok (.aload_n 0, 1) := by decide +kernel
theorem dJ0_isLatin1_aae02_7 : decode cJ0_isLatin1_aae02 7 = .ok (.getfield 15, 3) := by decide +kernel
theorem dJ0_isLatin1_aae02_10 : decode cJ0_isLatin1_aae02 10 = .ok (.ifCond .ne 7, 3) := by decide +kernel
theorem dJ0_isLatin1_aae02_13 : decode cJ0_isLatin1_aae02 13 = .ok (.iconst 1, 1) := by decide +kernel
theorem dJ0_isLatin1_aae02_14 : decode cJ0_isLatin1_aae02 14 = .ok (.goto 4, 3) := by decide +kernel
theorem dJ0_isLatin1_aae02_17 : decode cJ0_isLatin1_aae02 17 = .ok (.iconst 0, 1) := by decide +kernel
theorem dJ0_isLatin1_aae02_18 : decode cJ0_isLatin1_aae02 18 = .ok (.ireturn, 1) := by decide +kernel
set_option maxRecDepth 20000 in
theorem ggJ0_checkBoundsBeginEnd_23922_J3_checkFromToIndex_8c36e : GoodIn wsJ0_checkBoundsBeginEnd_23922 wsJ3_checkFromToIndex_8c36e := goodIn_r _ [5] (by decide +kernel) (by decide +kernel)
set_option maxRecDepth 20000 in
theorem gJ0_checkBoundsBeginEnd_23922_J3_checkFromToIndex_8c36e : GoodIn wsJ0_checkBoundsBeginEnd_23922 (va_wsS RJ0 1062 yJ3_checkFromToIndex_8c36e wsJ3_checkFromToIndex_8c36e) := goodIn_app (goodIn_of _ (by decide +kernel)) ggJ0_checkBoundsBeginEnd_23922_J3_checkFromToIndex_8c36e
theorem dJ0_checkBoundsBeginEnd_23922_0 : decode cJ0_checkBoundsBeginEnd_23922 0 = .ok (.iload_n 0, 1) := by decide +kernel
theorem dJ0_checkBoundsBeginEnd_23922_1 : decode cJ0_checkBoundsBeginEnd_23922 1 = .ok (.iload_n 1, 1) := by decide +kernel
theorem dJ0_checkBoundsBeginEnd_23922_2 : decode cJ0_checkBoundsBeginEnd_23922 2 = .ok (.iload_n 2, 1) := by decide +kernel
theorem dJ0_checkBoundsBeginEnd_23922_3 : decode cJ0_checkBoundsBeginEnd_23922 3 = .ok (.getstatic 1053, 3) := by decide +kernel
theorem dJ0_checkBoundsBeginEnd_23922_6 : decode cJ0_checkBoundsBeginEnd_23922 6 = .ok (.invokestatic 1062, 3) := by decide +kernel
theorem dJ0_checkBoundsBeginEnd_23922_9 : decode cJ0_checkBoundsBeginEnd_23922 9 = .ok (.pop, 1) := by decide +kernel
theorem dJ0_checkBoundsBeginEnd_23922_10 : decode cJ0_checkBoundsBeginEnd_23922 10 = .ok (.return_, 1) := by decide +kernel
theorem dJ1_canEncode_9a6ad_0 : decode cJ1_canEncode_9a6ad 0 = .ok (.iload_n 0, 1) := by decide +kernel
theorem dJ1_canEncode_9a6ad_1 : decode cJ1_canEncode_9a6ad 1 = .ok (.ifCond .lt 14, 3) := by decide +kernel
theorem dJ1_canEncode_9a6ad_4 : decode cJ1_canEncode_9a6ad 4 = .ok (.iload_n 0, 1) := by decide +kernel
theorem dJ1_canEncode_9a6ad_5 : decode cJ1_canEncode_9a6ad 5 = .ok (.sipush 255, 3) := by decide +kernel
theorem dJ1_canEncode_9a6ad_8 : decode cJ1_canEncode_9a6ad 8 = .ok (.if_icmp .gt 7, 3) := by decide +kernel
theorem dJ1_canEncode_9a6ad_11 : decode cJ1_canEncode_9a6ad 11 = .ok (.iconst 1, 1) := by decide +kernel
theorem dJ1_canEncode_9a6ad_12 : decode cJ1_canEncode_9a6ad 12 = .ok (.goto 4, 3) := by decide +kernel
theorem dJ1_canEncode_9a6ad_15 : decode cJ1_canEncode_9a6ad 15 = .ok (.iconst 0, 1) := by decide +kernel
theorem dJ1_canEncode_9a6ad_16 : decode cJ1_canEncode_9a6ad 16 = .ok (.ireturn, 1) := by decide +kernel
set_option maxRecDepth 20000 in
theorem ggJ1_indexOf_4cfef_J1_canEncode_9a6ad : GoodIn wsJ1_indexOf_4cfef wsJ1_canEncode_9a6ad := goodIn_r _ [11] (by decide +kernel) (by decide +kernel)
set_option maxRecDepth 20000 in
theorem gJ1_indexOf_4cfef_J1_canEncode_9a6ad : GoodIn wsJ1_indexOf_4cfef (va_wsS RJ1 88 yJ1_canEncode_9a6ad wsJ1_canEncode_9a6ad) := goodIn_app (goodIn_of _ (by decide +kernel)) ggJ1_indexOf_4cfef_J1_canEncode_9a6ad
set_option maxRecDepth 20000 in
theorem ggJ1_indexOf_4cfef_J1_indexOfChar_4cfef : GoodIn wsJ1_indexOf_4cfef wsJ1_indexOfChar_4cfef := goodIn_r _ [14] (by decide +kernel) (by decide +kernel)
set_option maxRecDepth 20000 in
theorem gJ1_indexOf_4cfef_J1_indexOfChar_4cfef : GoodIn wsJ1_indexOf_4cfef (va_wsS RJ1 95 yJ1_indexOfChar_4cfef wsJ1_indexOfChar_4cfef) := goodIn_app (goodIn_of _ (by decide +kernel)) ggJ1_indexOf_4cfef_J1_indexOfChar_4cfef
theorem dJ1_indexOf_4cfef_0 : decode cJ1_indexOf_4cfef 0 = .ok (.iload_n 1, 1) := by decide +kernel
theorem dJ1_indexOf_4cfef_1 : decode cJ1_indexOf_4cfef 1 = .ok (.invokestatic 88, 3) := by decide +kernel
theorem dJ1_indexOf_4cfef_4 : decode cJ1_indexOf_4cfef 4 = .ok (.ifCond .ne 5, 3) := by decide +kernel
theorem dJ1_indexOf_4cfef_7 : decode cJ1_indexOf_4cfef 7 = .ok (.iconst (-1), 1) := by decide +kernel
theorem dJ1_indexOf_4cfef_8 : decode cJ1_indexOf_4cfef 8 = .ok (.ireturn, 1) := by decide +kernel
theorem dJ1_indexOf_4cfef_9 : decode cJ1_indexOf_4cfef 9 = .ok (.iload_n 2, 1) := by decide +kernel
theorem dJ1_indexOf_4cfef_10 : decode cJ1_indexOf_4cfef 10 = .ok (.iconst 0, 1) := by decide +kernel
theorem dJ1_indexOf_4cfef_11 : decode cJ1_indexOf_4cfef 11 = .ok (.invokestatic 92, 3) := by decide +kernel
theorem dJ1_indexOf_4cfef_14 : decode cJ1_indexOf_4cfef 14 = .ok (.istore_n 2, 1) := by decide +kernel
theorem dJ1_indexOf_4cfef_15 : decode cJ1_indexOf_4cfef 15 = .ok (.iload_n 3, 1) := by decide +kernel
theorem dJ1_indexOf_4cfef_16 : decode cJ1_indexOf_4cfef 16 = .ok (.aload_n 0, 1) := by decide +kernel
theorem dJ1_indexOf_4cfef_17 : decode cJ1_indexOf_4cfef 17 = .ok (.arraylength, 1) := by decide +kernel
theorem dJ1_indexOf_4cfef_18 : decode cJ1_indexOf_4cfef 18 = .ok (.invokestatic 38, 3) := by decide +kernel
theorem dJ1_indexOf_4cfef_21 : decode cJ1_indexOf_4cfef 21 = .ok (.istore_n 3, 1) := by decide +kernel
theorem dJ1_indexOf_4cfef_22 : decode cJ1_indexOf_4cfef 22 = .ok (.iload_n 2, 1) := by decide +kernel
theorem dJ1_indexOf_4cfef_23 : decode cJ1_indexOf_4cfef 23 = .ok (.iload_n 3, 1) := by decide +kernel
theorem dJ1_indexOf_4cfef_24 : decode cJ1_indexOf_4cfef 24 = .ok (.if_icmp .lt 5, 3) := by decide +kernel
theorem dJ1_indexOf_4cfef_27 : decode cJ1_indexOf_4cfef 27 = .ok (.iconst (-1), 1) := by decide +kernel
theorem dJ1_indexOf_4cfef_28 : decode cJ1_indexOf_4cfef 28 = .ok (.ireturn, 1) := by decide +kernel
theorem dJ1_indexOf_4cfef_29 : decode cJ1_indexOf_4cfef 29 = .ok (.aload_n 0, 1) := by decide +kernel
theorem dJ1_indexOf_4cfef_30 : decode cJ1_indexOf_4cfef 30 = .ok (.iload_n 1, 1) := by decide +kernel
theorem dJ1_indexOf_4cfef_31 : decode cJ1_indexOf_4cfef 31 = .ok (.iload_n 2, 1) := by decide +kernel
theorem dJ1_indexOf_4cfef_32 : decode cJ1_indexOf_4cfef 32 = .ok (.iload_n 3, 1) := by decide +kernel
theorem dJ1_indexOf_4cfef_33 : decode cJ1_indexOf_4cfef 33 = .ok (.invokestatic 95, 3) := by decide +kernel
theorem dJ1_indexOf_4cfef_36 : decode cJ1_indexOf_4cfef 36 = .ok (.ireturn, 1) := by decide +kernel
theorem dJ1_indexOfChar_4cfef_0 : decode cJ1_indexOfChar_4cfef 0 = .ok (.iload_n 1, 1) := by decide +kernel
theorem dJ1_indexOfChar_4cfef_1 : decode cJ1_indexOfChar_4cfef 1 = .ok (.i2b, 1) := by decide +kernel
theorem dJ1_indexOfChar_4cfef_2 : decode cJ1_indexOfChar_4cfef 2 = .ok (.istore 4, 2) := by decide +kernel
theorem dJ1_indexOfChar_4cfef_4 : decode cJ1_indexOfChar_4cfef 4 = .ok (.iload_n 2, 1) := by decide +kernel
theorem dJ1_indexOfChar_4cfef_5 : decode cJ1_indexOfChar_4cfef 5 = .ok (.istore 5, 2) := by decide +kernel
theorem dJ1_indexOfChar_4cfef_7 : decode cJ1_indexOfChar_4cfef 7 = .ok (.iload 5, 2) := by decide +kernel
theorem dJ1_indexOfChar_4cfef_9 : decode cJ1_indexOfChar_4cfef 9 = .ok (.iload_n 3, 1) := by decide +kernel
theorem dJ1_indexOfChar_4cfef_10 : decode cJ1_indexOfChar_4cfef 10 = .ok (.if_icmp .ge 21, 3) := by decide +kernel
theorem dJ1_indexOfChar_4cfef_13 : decode cJ1_indexOfChar_4cfef 13 = .ok (.aload_n 0, 1) := by decide +kernel
theorem dJ1_indexOfChar_4cfef_14 : decode cJ1_indexOfChar_4cfef 14 = .ok (.iload 5, 2) := by decide +kernel
theorem dJ1_indexOfChar_4cfef_16 : decode cJ1_indexOfChar_4cfef 16 = .ok (.baload, 1) := by decide +kernel
theorem dJ1_indexOfChar_4cfef_17 : decode cJ1_indexOfChar_4cfef 17 = .ok (.iload 4, 2) := by decide +kernel
theorem dJ1_indexOfChar_4cfef_19 : decode cJ1_indexOfChar_4cfef 19 = .ok (.if_icmp .ne 6, 3) := by decide +kernel
theorem dJ1_indexOfChar_4cfef_22 : decode cJ1_indexOfChar_4cfef 22 = .ok (.iload 5, 2) := by decide +kernel
theorem dJ1_indexOfChar_4cfef_24 : decode cJ1_indexOfChar_4cfef 24 = .ok (.ireturn, 1) := by decide +kernel
theorem dJ1_indexOfChar_4cfef_25 : decode cJ1_indexOfChar_4cfef 25 = .ok (.iinc 5 1, 3) := by decide +kernel
theorem dJ1_indexOfChar_4cfef_28 : decode cJ1_indexOfChar_4cfef 28 = .ok (.goto (-21), 3) := by decide +kernel
theorem dJ1_indexOfChar_4cfef_31 : decode cJ1_indexOfChar_4cfef 31 = .ok (.iconst (-1), 1) := by decide +kernel
theorem dJ1_indexOfChar_4cfef_32 : decode cJ1_indexOfChar_4cfef 32 = .ok (.ireturn, 1) := by decide +kernel
set_option maxRecDepth 20000 in
theorem ggJ2_getChar_3b067_J2_length_9d52b : GoodIn wsJ2_getChar_3b067 wsJ2_length_9d52b := goodIn_r _ [7] (by decide +kernel) (by decide +kernel)
set_option maxRecDepth 20000 in
theorem gJ2_getChar_3b067_J2_length_9d52b : GoodIn wsJ2_getChar_3b067 (va_wsS RJ2 48 yJ2_length_9d52b wsJ2_length_9d52b) := goodIn_app (goodIn_of _ (by decide +kernel)) ggJ2_getChar_3b067_J2_length_9d52b
theorem dJ2_getChar_3b067_0 : decode cJ2_getChar_3b067 0 = .ok (.getstatic 44, 3) := by decide +kernel
theorem dJ2_getChar_3b067_3 : decode cJ2_getChar_3b067 3 = .ok (.ifCond .ne 25, 3) := by decide +kernel
theorem dJ2_getChar_3b067_6 : decode cJ2_getChar_3b067 6 = .ok (.iload_n 1, 1) := by decide +kernel
theorem dJ2_getChar_3b067_7 : decode cJ2_getChar_3b067 7 = .ok (.ifCond .lt 11, 3) := by decide +kernel
theorem dJ2_getChar_3b067_10 : decode cJ2_getChar_3b067 10 = .ok (.iload_n 1, 1) := by decide +kernel
theorem dJ2_getChar_3b067_11 : decode cJ2_getChar_3b067 11 = .ok (.aload_n 0, 1) := by decide +kernel
theorem dJ2_getChar_3b067_12 : decode cJ2_getChar_3b067 12 = .ok (.invokestatic 48, 3) := by decide +kernel
theorem dJ2_getChar_3b067_15 : decode cJ2_getChar_3b067 15 = .ok (.if_icmp .lt 13, 3) := by decide +kernel
theorem dJ2_getChar_3b067_18 : decode cJ2_getChar_3b067 18 = .ok (.new 52, 3) := by decide +kernel
theorem dJ2_getChar_3b067_21 : decode cJ2_getChar_3b067 21 = .ok (.dup, 1) := by decide +kernel
theorem dJ2_getChar_3b067_22 : decode cJ2_getChar_3b067 22 = .ok (.ldc 54, 2) := by decide +kernel
theorem dJ2_getChar_3b067_24 : decode cJ2_getChar_3b067 24 = .ok (.invokespecial 56, 3) := by decide +kernel
theorem dJ2_getChar_3b067_27 : decode cJ2_getChar_3b067 27 = .ok (.athrow, 1) := by decide +kernel
theorem dJ2_getChar_3b067_28 : decode cJ2_getChar_3b067 28 = .ok (.iload_n 1, 1) := by decide +kernel
theorem dJ2_getChar_3b067_29 : decode cJ2_getChar_3b067 29 = .ok (.iconst 1, 1) := by decide +kernel
theorem dJ2_getChar_3b067_30 : decode cJ2_getChar_3b067 30 = .ok (.ishl, 1) := by decide +kernel
theorem dJ2_getChar_3b067_31 : decode cJ2_getChar_3b067 31 = .ok (.istore_n 1, 1) := by decide +kernel
theorem dJ2_getChar_3b067_32 : decode cJ2_getChar_3b067 32 = .ok (.aload_n 0, 1) := by decide +kernel
theorem dJ2_getChar_3b067_33 : decode cJ2_getChar_3b067 33 = .ok (.iload_n 1, 1) := by decide +kernel
theorem dJ2_getChar_3b067_34 : decode cJ2_getChar_3b067 34 = .ok (.iinc 1 1, 3) := by decide +kernel
theorem dJ2_getChar_3b067_37 : decode cJ2_getChar_3b067 37 = .ok (.baload, 1) := by decide +kernel
theorem dJ2_getChar_3b067_38 : decode cJ2_getChar_3b067 38 = .ok (.sipush 255, 3) := by decide +kernel
theorem dJ2_getChar_3b067_41 : decode cJ2_getChar_3b067 41 = .ok (.iand, 1) := by decide +kernel
theorem dJ2_getChar_3b067_42 : decode cJ2_getChar_3b067 42 = .ok (.getstatic 59, 3) := by decide +kernel
theorem dJ2_getChar_3b067_45 : decode cJ2_getChar_3b067 45 = .ok (.ishl, 1) := by decide +kernel
theorem dJ2_getChar_3b067_46 : decode cJ2_getChar_3b067 46 = .ok (.aload_n 0, 1) := by decide +kernel
theorem dJ2_getChar_3b067_47 : decode cJ2_getChar_3b067 47 = .ok (.iload_n 1, 1) := by decide +kernel
theorem dJ2_getChar_3b067_48 : decode cJ2_getChar_3b067 48 = .ok (.baload, 1) := by decide +kernel
theorem dJ2_getChar_3b067_49 : decode cJ2_getChar_3b067 49 = .ok (.sipush 255, 3) := by decide +kernel
theorem dJ2_getChar_3b067_52 : decode cJ2_getChar_3b067 52 = .ok (.iand, 1) := by decide +kernel
theorem dJ2_getChar_3b067_53 : decode cJ2_getChar_3b067 53 = .ok (.getstatic 63, 3) := by decide +kernel
theorem dJ2_getChar_3b067_56 : decode cJ2_getChar_3b067 56 = .ok (.ishl, 1) := by decide +kernel
theorem dJ2_getChar_3b067_57 : decode cJ2_getChar_3b067 57 = .ok (.ior, 1) := by decide +kernel
theorem dJ2_getChar_3b067_58 : decode cJ2_getChar_3b067 58 = .ok (.i2c, 1) := by decide +kernel
theorem dJ2_getChar_3b067_59 : decode cJ2_getChar_3b067 59 = .ok (.ireturn, 1) := by decide +kernel
theorem dJ2_length_9d52b_0 : decode cJ2_length_9d52b 0 = .ok (.aload_n 0, 1) := by decide +kernel
theorem dJ2_length_9d52b_1 : decode cJ2_length_9d52b 1 = .ok (.arraylength, 1) := by decide +kernel
theorem dJ2_length_9d52b_2 : decode cJ2_length_9d52b 2 = .ok (.iconst 1, 1) := by decide +kernel
theorem dJ2_length_9d52b_3 : decode cJ2_length_9d52b 3 = .ok (.ishr, 1) := by decide +kernel
theorem dJ2_length_9d52b_4 : decode cJ2_length_9d52b 4 = .ok (.ireturn, 1) := by decide +kernel
set_option maxRecDepth 20000 in
theorem ggJ2_indexOf_4cfef_J2_indexOfChar_4cfef : GoodIn wsJ2_indexOf_4cfef wsJ2_indexOfChar_4cfef := goodIn_r _ [12, 13, 14, 11, 15, 16, 17, 18, 19, 20, 21, 22, 23, 24, 25, 26, 27, 28, 29, 30, 31, 32, 33, 34, 35, 36] (by decide +kernel) (by decide +kernel)
set_option maxRecDepth 20000 in
theorem gJ2_indexOf_4cfef_J2_indexOfChar_4cfef : GoodIn wsJ2_indexOf_4cfef (va_wsS RJ2 228 yJ2_indexOfChar_4cfef wsJ2_indexOfChar_4cfef) := goodIn_app (goodIn_of _ (by decide +kernel)) ggJ2_indexOf_4cfef_J2_indexOfChar_4cfef
set_option maxRecDepth 20000 in
theorem ggJ2_indexOf_4cfef_J2_indexOfSupplementary_4cfef : GoodIn wsJ2_indexOf_4cfef wsJ2_indexOfSupplementary_4cfef := goodIn_r _ [39, 40, 41, 42, 43, 44, 45, 46, 47, 48, 49, 50, 51, 13, 14, 11, 15, 16, 17, 18, 19, 20, 21, 22, 23, 24, 25, 26, 27, 31, 32, 33, 34, 35, 36] (by decide +kernel) (by decide +kernel)
set_option maxRecDepth 20000 in
theorem gJ2_indexOf_4cfef_J2_indexOfSupplementary_4cfef : GoodIn wsJ2_indexOf_4cfef (va_wsS RJ2 232 yJ2_indexOfSupplementary_4cfef wsJ2_indexOfSupplementary_4cfef) := goodIn_app (goodIn_of _ (by decide +kernel)) ggJ2_indexOf_4cfef_J2_indexOfSupplementary_4cfef
theorem dJ2_indexOf_4cfef_0 : decode cJ2_indexOf_4cfef 0 = .ok (.iload_n 2, 1) := by decide +kernel
theorem dJ2_indexOf_4cfef_1 : decode cJ2_indexOf_4cfef 1 = .ok (.iconst 0, 1) := by decide +kernel
theorem dJ2_indexOf_4cfef_2 : decode cJ2_indexOf_4cfef 2 = .ok (.invokestatic 224, 3) := by decide +kernel
theorem dJ2_indexOf_4cfef_5 : decode cJ2_indexOf_4cfef 5 = .ok (.istore_n 2, 1) := by decide +kernel
theorem dJ2_indexOf_4cfef_6 : decode cJ2_indexOf_4cfef 6 = .ok (.iload_n 3, 1) := by decide +kernel
theorem dJ2_indexOf_4cfef_7 : decode cJ2_indexOf_4cfef 7 = .ok (.aload_n 0, 1) := by decide +kernel
theorem dJ2_indexOf_4cfef_8 : decode cJ2_indexOf_4cfef 8 = .ok (.arraylength, 1) := by decide +kernel
theorem dJ2_indexOf_4cfef_9 : decode cJ2_indexOf_4cfef 9 = .ok (.iconst 1, 1) := by decide +kernel
theorem dJ2_indexOf_4cfef_10 : decode cJ2_indexOf_4cfef 10 = .ok (.ishr, 1) := by decide +kernel
theorem dJ2_indexOf_4cfef_11 : decode cJ2_indexOf_4cfef 11 = .ok (.invokestatic 183, 3) := by decide +kernel
theorem dJ2_indexOf_4cfef_14 : decode cJ2_indexOf_4cfef 14 = .ok (.istore_n 3, 1) := by decide +kernel
theorem dJ2_indexOf_4cfef_15 : decode cJ2_indexOf_4cfef 15 = .ok (.iload_n 2, 1) := by decide +kernel
theorem dJ2_indexOf_4cfef_16 : decode cJ2_indexOf_4cfef 16 = .ok (.iload_n 3, 1) := by decide +kernel
theorem dJ2_indexOf_4cfef_17 : decode cJ2_indexOf_4cfef 17 = .ok (.if_icmp .lt 5, 3) := by decide +kernel
theorem dJ2_indexOf_4cfef_20 : decode cJ2_indexOf_4cfef 20 = .ok (.iconst (-1), 1) := by decide +kernel
theorem dJ2_indexOf_4cfef_21 : decode cJ2_indexOf_4cfef 21 = .ok (.ireturn, 1) := by decide +kernel
theorem dJ2_indexOf_4cfef_22 : decode cJ2_indexOf_4cfef 22 = .ok (.iload_n 1, 1) := by decide +kernel
theorem dJ2_indexOf_4cfef_23 : decode cJ2_indexOf_4cfef 23 = .ok (.ldc 227, 2) := by decide +kernel
theorem dJ2_indexOf_4cfef_25 : decode cJ2_indexOf_4cfef 25 = .ok (.if_icmp .ge 11, 3) := by decide +kernel
theorem dJ2_indexOf_4cfef_28 : decode cJ2_indexOf_4cfef 28 = .ok (.aload_n 0, 1) := by decide +kernel
theorem dJ2_indexOf_4cfef_29 : decode cJ2_indexOf_4cfef 29 = .ok (.iload_n 1, 1) := by decide +kernel
theorem dJ2_indexOf_4cfef_30 : decode cJ2_indexOf_4cfef 30 = .ok (.iload_n 2, 1) := by decide +kernel
theorem dJ2_indexOf_4cfef_31 : decode cJ2_indexOf_4cfef 31 = .ok (.iload_n 3, 1) := by decide +kernel
theorem dJ2_indexOf_4cfef_32 : decode cJ2_indexOf_4cfef 32 = .ok (.invokestatic 228, 3) := by decide +kernel
theorem dJ2_indexOf_4cfef_35 : decode cJ2_indexOf_4cfef 35 = .ok (.ireturn, 1) := by decide +kernel
theorem dJ2_indexOf_4cfef_36 : decode cJ2_indexOf_4cfef 36 = .ok (.aload_n 0, 1) := by decide +kernel
theorem dJ2_indexOf_4cfef_37 : decode cJ2_indexOf_4cfef 37 = .ok (.iload_n 1, 1) := by decide +kernel
theorem dJ2_indexOf_4cfef_38 : decode cJ2_indexOf_4cfef 38 = .ok (.iload_n 2, 1) := by decide +kernel
theorem dJ2_indexOf_4cfef_39 : decode cJ2_indexOf_4cfef 39 = .ok (.iload_n 3, 1) := by decide +kernel
theorem dJ2_indexOf_4cfef_40 : decode cJ2_indexOf_4cfef 40 = .ok (.invokestatic 232, 3) := by decide +kernel
theorem dJ2_indexOf_4cfef_43 : decode cJ2_indexOf_4cfef 43 = .ok (.ireturn, 1) := by decide +kernel
set_option maxRecDepth 20000 in
theorem ggJ2_indexOfChar_4cfef_J2_checkBoundsBeginEnd_d044e : GoodIn wsJ2_indexOfChar_4cfef wsJ2_checkBoundsBeginEnd_d044e := goodIn_r _ [4, 5, 6, 3, 7, 8, 9, 10, 11, 12, 13, 14, 15, 16] (by decide +kernel) (by decide +kernel)
set_option maxRecDepth 20000 in
theorem gJ2_indexOfChar_4cfef_J2_checkBoundsBeginEnd_d044e : GoodIn wsJ2_indexOfChar_4cfef (va_wsS RJ2 96 yJ2_checkBoundsBeginEnd_d044e wsJ2_checkBoundsBeginEnd_d044e) := goodIn_app (goodIn_of _ (by decide +kernel)) ggJ2_indexOfChar_4cfef_J2_checkBoundsBeginEnd_d044e
set_option maxRecDepth 20000 in
theorem ggJ2_indexOfChar_4cfef_J2_indexOfCharUnsafe_4cfef : GoodIn wsJ2_indexOfChar_4cfef wsJ2_indexOfCharUnsafe_4cfef := goodIn_r _ [19, 20, 21, 3, 22, 23, 24, 25, 5, 6, 7] (by decide +kernel) (by decide +kernel)
set_option maxRecDepth 20000 in
theorem gJ2_indexOfChar_4cfef_J2_indexOfCharUnsafe_4cfef : GoodIn wsJ2_indexOfChar_4cfef (va_wsS RJ2 244 yJ2_indexOfCharUnsafe_4cfef wsJ2_indexOfCharUnsafe_4cfef) := goodIn_app (goodIn_of _ (by decide +kernel)) ggJ2_indexOfChar_4cfef_J2_indexOfCharUnsafe_4cfef
theorem dJ2_indexOfChar_4cfef_0 : decode cJ2_indexOfChar_4cfef 0 = .ok (.iload_n 2, 1) := by decide +kernel
theorem dJ2_indexOfChar_4cfef_1 : decode cJ2_indexOfChar_4cfef 1 = .ok (.iload_n 3, 1) := by decide +kernel
theorem dJ2_indexOfChar_4cfef_2 : decode cJ2_indexOfChar_4cfef 2 = .ok (.aload_n 0, 1) := by decide +kernel
theorem dJ2_indexOfChar_4cfef_3 : decode cJ2_indexOfChar_4cfef 3 = .ok (.invokestatic 96, 3) := by decide +kernel
theorem dJ2_indexOfChar_4cfef_6 : decode cJ2_indexOfChar_4cfef 6 = .ok (.aload_n 0, 1) := by decide +kernel
theorem dJ2_indexOfChar_4cfef_7 : decode cJ2_indexOfChar_4cfef 7 = .ok (.iload_n 1, 1) := by decide +kernel
theorem dJ2_indexOfChar_4cfef_8 : decode cJ2_indexOfChar_4cfef 8 = .ok (.iload_n 2, 1) := by decide +kernel
theorem dJ2_indexOfChar_4cfef_9 : decode cJ2_indexOfChar_4cfef 9 = .ok (.iload_n 3, 1) := by decide +kernel
theorem dJ2_indexOfChar_4cfef_10 : decode cJ2_indexOfChar_4cfef 10 = .ok (.invokestatic 244, 3) := by decide +kernel
theorem dJ2_indexOfChar_4cfef_13 : decode cJ2_indexOfChar_4cfef 13 = .ok (.ireturn, 1) := by decide +kernel
set_option maxRecDepth 20000 in
theorem ggJ2_indexOfCharUnsafe_4cfef_J2_getChar_3b067 : GoodIn wsJ2_indexOfCharUnsafe_4cfef wsJ2_getChar_3b067 := goodIn_r _ [4, 5, 6, 7, 8, 9, 3, 10] (by decide +kernel) (by decide +kernel)
set_option maxRecDepth 20000 in
theorem gJ2_indexOfCharUnsafe_4cfef_J2_getChar_3b067 : GoodIn wsJ2_indexOfCharUnsafe_4cfef (va_wsS RJ2 71 yJ2_getChar_3b067 wsJ2_getChar_3b067) := goodIn_app (goodIn_of _ (by decide +kernel)) ggJ2_indexOfCharUnsafe_4cfef_J2_getChar_3b067
theorem dJ2_indexOfCharUnsafe_4cfef_0 : decode cJ2_indexOfCharUnsafe_4cfef 0 = .ok (.iload_n 2, 1) := by decide +kernel
theorem dJ2_indexOfCharUnsafe_4cfef_1 : decode cJ2_indexOfCharUnsafe_4cfef 1 = .ok (.istore 4, 2) := by decide +kernel
theorem dJ2_indexOfCharUnsafe_4cfef_3 : decode cJ2_indexOfCharUnsafe_4cfef 3 = .ok (.iload 4, 2) := by decide +kernel
theorem dJ2_indexOfCharUnsafe_4cfef_5 : decode cJ2_indexOfCharUnsafe_4cfef 5 = .ok (.iload_n 3, 1) := by decide +kernel
theorem dJ2_indexOfCharUnsafe_4cfef_6 : decode cJ2_indexOfCharUnsafe_4cfef 6 = .ok (.if_icmp .ge 22, 3) := by decide +kernel
theorem dJ2_indexOfCharUnsafe_4cfef_9 : decode cJ2_indexOfCharUnsafe_4cfef 9 = .ok (.aload_n 0, 1) := by decide +kernel
theorem dJ2_indexOfCharUnsafe_4cfef_10 : decode cJ2_indexOfCharUnsafe_4cfef 10 = .ok (.iload 4, 2) := by decide +kernel
theorem dJ2_indexOfCharUnsafe_4cfef_12 : decode cJ2_indexOfCharUnsafe_4cfef 12 = .ok (.invokestatic 71, 3) := by decide +kernel
theorem dJ2_indexOfCharUnsafe_4cfef_15 : decode cJ2_indexOfCharUnsafe_4cfef 15 = .ok (.iload_n 1, 1) := by decide +kernel
theorem dJ2_indexOfCharUnsafe_4cfef_16 : decode cJ2_indexOfCharUnsafe_4cfef 16 = .ok (.if_icmp .ne 6, 3) := by decide +kernel
theorem dJ2_indexOfCharUnsafe_4cfef_19 : decode cJ2_indexOfCharUnsafe_4cfef 19 = .ok (.iload 4, 2) := by decide +kernel
theorem dJ2_indexOfCharUnsafe_4cfef_21 : decode cJ2_indexOfCharUnsafe_4cfef 21 = .ok (.ireturn, 1) := by decide +kernel
theorem dJ2_indexOfCharUnsafe_4cfef_22 : decode cJ2_indexOfCharUnsafe_4cfef 22 = .ok (.iinc 4 1, 3) := by decide +kernel
theorem dJ2_indexOfCharUnsafe_4cfef_25 : decode cJ2_indexOfCharUnsafe_4cfef 25 = .ok (.goto (-22), 3) := by decide +kernel
theorem dJ2_indexOfCharUnsafe_4cfef_28 : decode cJ2_indexOfCharUnsafe_4cfef 28 = .ok (.iconst (-1), 1) := by decide +kernel
theorem dJ2_indexOfCharUnsafe_4cfef_29 : decode cJ2_indexOfCharUnsafe_4cfef 29 = .ok (.ireturn, 1) := by decide +kernel
set_option maxRecDepth 20000 in
theorem ggJ2_indexOfSupplementary_4cfef_J11_isValidCodePoint_9a6ad : GoodIn wsJ2_indexOfSupplementary_4cfef wsJ11_isValidCodePoint_9a6ad := goodIn_r _ [4] (by decide +kernel) (by decide +kernel)
set_option maxRecDepth 20000 in
theorem gJ2_indexOfSupplementary_4cfef_J11_isValidCodePoint_9a6ad : GoodIn wsJ2_indexOfSupplementary_4cfef (va_wsS RJ2 164 yJ11_isValidCodePoint_9a6ad wsJ11_isValidCodePoint_9a6ad) := goodIn_app (goodIn_of _ (by decide +kernel)) ggJ2_indexOfSupplementary_4cfef_J11_isValidCodePoint_9a6ad
set_option maxRecDepth 20000 in
theorem ggJ2_indexOfSupplementary_4cfef_J11_highSurrogate_5068e : GoodIn wsJ2_indexOfSupplementary_4cfef wsJ11_highSurrogate_5068e := goodIn_r _ [7, 8] (by decide +kernel) (by decide +kernel)
set_option maxRecDepth 20000 in
theorem gJ2_indexOfSupplementary_4cfef_J11_highSurrogate_5068e : GoodIn wsJ2_indexOfSupplementary_4cfef (va_wsS RJ2 157 yJ11_highSurrogate_5068e wsJ11_highSurrogate_5068e) := goodIn_app (goodIn_of _ (by decide +kernel)) ggJ2_indexOfSupplementary_4cfef_J11_highSurrogate_5068e
set_option maxRecDepth 20000 in
theorem ggJ2_indexOfSupplementary_4cfef_J11_lowSurrogate_5068e : GoodIn wsJ2_indexOfSupplementary_4cfef wsJ11_lowSurrogate_5068e := goodIn_r _ [11, 12] (by decide +kernel) (by decide +kernel)
set_option maxRecDepth 20000 in
theorem gJ2_indexOfSupplementary_4cfef_J11_lowSurrogate_5068e : GoodIn wsJ2_indexOfSupplementary_4cfef (va_wsS RJ2 161 yJ11_lowSurrogate_5068e wsJ11_lowSurrogate_5068e) := goodIn_app (goodIn_of _ (by decide +kernel)) ggJ2_indexOfSupplementary_4cfef_J11_lowSurrogate_5068e
set_option maxRecDepth 20000 in
theorem ggJ2_indexOfSupplementary_4cfef_J2_checkBoundsBeginEnd_d044e : GoodIn wsJ2_indexOfSupplementary_4cfef wsJ2_checkBoundsBeginEnd_d044e := goodIn_r _ [16, 17, 18, 15, 19, 20, 21, 22, 23, 24, 25, 26, 27, 28] (by decide +kernel) (by decide +kernel)
set_option maxRecDepth 20000 in
theorem gJ2_indexOfSupplementary_4cfef_J2_checkBoundsBeginEnd_d044e : GoodIn wsJ2_indexOfSupplementary_4cfef (va_wsS RJ2 96 yJ2_checkBoundsBeginEnd_d044e wsJ2_checkBoundsBeginEnd_d044e) := goodIn_app (goodIn_of _ (by decide +kernel)) ggJ2_indexOfSupplementary_4cfef_J2_checkBoundsBeginEnd_d044e
set_option maxRecDepth 20000 in
theorem ggJ2_indexOfSupplementary_4cfef_J2_getChar_3b067 : GoodIn wsJ2_indexOfSupplementary_4cfef wsJ2_getChar_3b067 := goodIn_r _ [31, 32, 33, 34, 17, 18, 15, 19] (by decide +kernel) (by decide +kernel)
set_option maxRecDepth 20000 in
theorem gJ2_indexOfSupplementary_4cfef_J2_getChar_3b067 : GoodIn wsJ2_indexOfSupplementary_4cfef (va_wsS RJ2 71 yJ2_getChar_3b067 wsJ2_getChar_3b067) := goodIn_app (goodIn_of _ (by decide +kernel)) ggJ2_indexOfSupplementary_4cfef_J2_getChar_3b067
theorem dJ2_indexOfSupplementary_4cfef_0 : decode cJ2_indexOfSupplementary_4cfef 0 = .ok (.iload_n 1, 1) := by decide +kernel
theorem dJ2_indexOfSupplementary_4cfef_1 : decode cJ2_indexOfSupplementary_4cfef 1 = .ok (.invokestatic 164, 3) := by decide +kernel
theorem dJ2_indexOfSupplementary_4cfef_4 : decode cJ2_indexOfSupplementary_4cfef 4 = .ok (.ifCond .eq 65, 3) := by decide +kernel
theorem dJ2_indexOfSupplementary_4cfef_7 : decode cJ2_indexOfSupplementary_4cfef 7 = .ok (.iload_n 1, 1) := by decide +kernel
theorem dJ2_indexOfSupplementary_4cfef_8 : decode cJ2_indexOfSupplementary_4cfef 8 = .ok (.invokestatic 157, 3) := by decide +kernel
theorem dJ2_indexOfSupplementary_4cfef_11 : decode cJ2_indexOfSupplementary_4cfef 11 = .ok (.istore 4, 2) := by decide +kernel
theorem dJ2_indexOfSupplementary_4cfef_13 : decode cJ2_indexOfSupplementary_4cfef 13 = .ok (.iload_n 1, 1) := by decide +kernel
theorem dJ2_indexOfSupplementary_4cfef_14 : decode cJ2_indexOfSupplementary_4cfef 14 = .ok (.invokestatic 161, 3) := by decide +kernel
theorem dJ2_indexOfSupplementary_4cfef_17 : decode cJ2_indexOfSupplementary_4cfef 17 = .ok (.istore 5, 2) := by decide +kernel
theorem dJ2_indexOfSupplementary_4cfef_19 : decode cJ2_indexOfSupplementary_4cfef 19 = .ok (.iload_n 2, 1) := by decide +kernel
theorem dJ2_indexOfSupplementary_4cfef_20 : decode cJ2_indexOfSupplementary_4cfef 20 = .ok (.iload_n 3, 1) := by decide +kernel
theorem dJ2_indexOfSupplementary_4cfef_21 : decode cJ2_indexOfSupplementary_4cfef 21 = .ok (.aload_n 0, 1) := by decide +kernel
theorem dJ2_indexOfSupplementary_4cfef_22 : decode cJ2_indexOfSupplementary_4cfef 22 = .ok (.invokestatic 96, 3) := by decide +kernel
theorem dJ2_indexOfSupplementary_4cfef_25 : decode cJ2_indexOfSupplementary_4cfef 25 = .ok (.iload_n 2, 1) := by decide +kernel
theorem dJ2_indexOfSupplementary_4cfef_26 : decode cJ2_indexOfSupplementary_4cfef 26 = .ok (.istore 6, 2) := by decide +kernel
theorem dJ2_indexOfSupplementary_4cfef_28 : decode cJ2_indexOfSupplementary_4cfef 28 = .ok (.iload 6, 2) := by decide +kernel
theorem dJ2_indexOfSupplementary_4cfef_30 : decode cJ2_indexOfSupplementary_4cfef 30 = .ok (.iload_n 3, 1) := by decide +kernel
theorem dJ2_indexOfSupplementary_4cfef_31 : decode cJ2_indexOfSupplementary_4cfef 31 = .ok (.iconst 1, 1) := by decide +kernel
theorem dJ2_indexOfSupplementary_4cfef_32 : decode cJ2_indexOfSupplementary_4cfef 32 = .ok (.isub, 1) := by decide +kernel
theorem dJ2_indexOfSupplementary_4cfef_33 : decode cJ2_indexOfSupplementary_4cfef 33 = .ok (.if_icmp .ge 36, 3) := by decide +kernel
theorem dJ2_indexOfSupplementary_4cfef_36 : decode cJ2_indexOfSupplementary_4cfef 36 = .ok (.aload_n 0, 1) := by decide +kernel
theorem dJ2_indexOfSupplementary_4cfef_37 : decode cJ2_indexOfSupplementary_4cfef 37 = .ok (.iload 6, 2) := by decide +kernel
theorem dJ2_indexOfSupplementary_4cfef_39 : decode cJ2_indexOfSupplementary_4cfef 39 = .ok (.invokestatic 71, 3) := by decide +kernel
theorem dJ2_indexOfSupplementary_4cfef_42 : decode cJ2_indexOfSupplementary_4cfef 42 = .ok (.iload 4, 2) := by decide +kernel
theorem dJ2_indexOfSupplementary_4cfef_44 : decode cJ2_indexOfSupplementary_4cfef 44 = .ok (.if_icmp .ne 19, 3) := by decide +kernel
theorem dJ2_indexOfSupplementary_4cfef_47 : decode cJ2_indexOfSupplementary_4cfef 47 = .ok (.aload_n 0, 1) := by decide +kernel
theorem dJ2_indexOfSupplementary_4cfef_48 : decode cJ2_indexOfSupplementary_4cfef 48 = .ok (.iload 6, 2) := by decide +kernel
theorem dJ2_indexOfSupplementary_4cfef_50 : decode cJ2_indexOfSupplementary_4cfef 50 = .ok (.iconst 1, 1) := by decide +kernel
theorem dJ2_indexOfSupplementary_4cfef_51 : decode cJ2_indexOfSupplementary_4cfef 51 = .ok (.iadd, 1) := by decide +kernel
theorem dJ2_indexOfSupplementary_4cfef_52 : decode cJ2_indexOfSupplementary_4cfef 52 = .ok (.invokestatic 71, 3) := by decide +kernel
theorem dJ2_indexOfSupplementary_4cfef_55 : decode cJ2_indexOfSupplementary_4cfef 55 = .ok (.iload 5, 2) := by decide +kernel
theorem dJ2_indexOfSupplementary_4cfef_57 : decode cJ2_indexOfSupplementary_4cfef 57 = .ok (.if_icmp .ne 6, 3) := by decide +kernel
theorem dJ2_indexOfSupplementary_4cfef_60 : decode cJ2_indexOfSupplementary_4cfef 60 = .ok (.iload 6, 2) := by decide +kernel
theorem dJ2_indexOfSupplementary_4cfef_62 : decode cJ2_indexOfSupplementary_4cfef 62 = .ok (.ireturn, 1) := by decide +kernel
theorem dJ2_indexOfSupplementary_4cfef_63 : decode cJ2_indexOfSupplementary_4cfef 63 = .ok (.iinc 6 1, 3) := by decide +kernel
theorem dJ2_indexOfSupplementary_4cfef_66 : decode cJ2_indexOfSupplementary_4cfef 66 = .ok (.goto (-38), 3) := by decide +kernel
theorem dJ2_indexOfSupplementary_4cfef_69 : decode cJ2_indexOfSupplementary_4cfef 69 = .ok (.iconst (-1), 1) := by decide +kernel
theorem dJ2_indexOfSupplementary_4cfef_70 : decode cJ2_indexOfSupplementary_4cfef 70 = .ok (.ireturn, 1) := by decide +kernel
set_option maxRecDepth 20000 in
theorem ggJ2_checkBoundsBeginEnd_d044e_J2_length_9d52b : GoodIn wsJ2_checkBoundsBeginEnd_d044e wsJ2_length_9d52b := goodIn_r _ [4] (by decide +kernel) (by decide +kernel)
set_option maxRecDepth 20000 in
theorem gJ2_checkBoundsBeginEnd_d044e_J2_length_9d52b : GoodIn wsJ2_checkBoundsBeginEnd_d044e (va_wsS RJ2 48 yJ2_length_9d52b wsJ2_length_9d52b) := goodIn_app (goodIn_of _ (by decide +kernel)) ggJ2_checkBoundsBeginEnd_d044e_J2_length_9d52b
set_option maxRecDepth 20000 in
theorem ggJ2_checkBoundsBeginEnd_d044e_J0_checkBoundsBeginEnd_23922 : GoodIn wsJ2_checkBoundsBeginEnd_d044e wsJ0_checkBoundsBeginEnd_23922 := goodIn_r _ [8, 9, 10, 11, 12, 13] (by decide +kernel) (by decide +kernel)
set_option maxRecDepth 20000 in
theorem gJ2_checkBoundsBeginEnd_d044e_J0_checkBoundsBeginEnd_23922 : GoodIn wsJ2_checkBoundsBeginEnd_d044e (va_wsS RJ2 241 yJ0_checkBoundsBeginEnd_23922 wsJ0_checkBoundsBeginEnd_23922) := goodIn_app (goodIn_of _ (by decide +kernel)) ggJ2_checkBoundsBeginEnd_d044e_J0_checkBoundsBeginEnd_23922
theorem dJ2_checkBoundsBeginEnd_d044e_0 : decode cJ2_checkBoundsBeginEnd_d044e 0 = .ok (.iload_n 0, 1) := by decide +kernel
theorem dJ2_checkBoundsBeginEnd_d044e_1 : decode cJ2_checkBoundsBeginEnd_d044e 1 = .ok (.iload_n 1, 1) := by decide +kernel
theorem dJ2_checkBoundsBeginEnd_d044e_2 : decode cJ2_checkBoundsBeginEnd_d044e 2 = .ok (.aload_n 2, 1) := by decide +kernel
theorem dJ2_checkBoundsBeginEnd_d044e_3 : decode cJ2_checkBoundsBeginEnd_d044e 3 = .ok (.invokestatic 48, 3) := by decide +kernel
theorem dJ2_checkBoundsBeginEnd_d044e_6 : decode cJ2_checkBoundsBeginEnd_d044e 6 = .ok (.invokestatic 241, 3) := by decide +kernel
theorem dJ2_checkBoundsBeginEnd_d044e_9 : decode cJ2_checkBoundsBeginEnd_d044e 9 = .ok (.return_, 1) := by decide +kernel
theorem dJ7_copyOf_59c91_0 : decode cJ7_copyOf_59c91 0 = .ok (.iload_n 1, 1) := by decide +kernel
theorem dJ7_copyOf_59c91_1 : decode cJ7_copyOf_59c91 1 = .ok (.aload_n 0, 1) := by decide +kernel
theorem dJ7_copyOf_59c91_2 : decode cJ7_copyOf_59c91 2 = .ok (.arraylength, 1) := by decide +kernel
theorem dJ7_copyOf_59c91_3 : decode cJ7_copyOf_59c91 3 = .ok (.if_icmp .ne 11, 3) := by decide +kernel
theorem dJ7_copyOf_59c91_6 : decode cJ7_copyOf_59c91 6 = .ok (.aload_n 0, 1) := by decide +kernel
theorem dJ7_copyOf_59c91_7 : decode cJ7_copyOf_59c91 7 = .ok (.invokevirtual 316, 3) := by decide +kernel
theorem dJ7_copyOf_59c91_10 : decode cJ7_copyOf_59c91 10 = .ok (.checkcast 317, 3) := by decide +kernel
theorem dJ7_copyOf_59c91_13 : decode cJ7_copyOf_59c91 13 = .ok (.areturn, 1) := by decide +kernel
theorem dJ7_copyOf_59c91_14 : decode cJ7_copyOf_59c91 14 = .ok (.iload_n 1, 1) := by decide +kernel
theorem dJ7_copyOf_59c91_15 : decode cJ7_copyOf_59c91 15 = .ok (.newarray .int, 2) := by decide +kernel
theorem dJ7_copyOf_59c91_17 : decode cJ7_copyOf_59c91 17 = .ok (.astore_n 2, 1) := by decide +kernel
theorem dJ7_copyOf_59c91_18 : decode cJ7_copyOf_59c91 18 = .ok (.aload_n 0, 1) := by decide +kernel
theorem dJ7_copyOf_59c91_19 : decode cJ7_copyOf_59c91 19 = .ok (.iconst 0, 1) := by decide +kernel
theorem dJ7_copyOf_59c91_20 : decode cJ7_copyOf_59c91 20 = .ok (.aload_n 2, 1) := by decide +kernel
theorem dJ7_copyOf_59c91_21 : decode cJ7_copyOf_59c91 21 = .ok (.iconst 0, 1) := by decide +kernel
theorem dJ7_copyOf_59c91_22 : decode cJ7_copyOf_59c91 22 = .ok (.aload_n 0, 1) := by decide +kernel
theorem dJ7_copyOf_59c91_23 : decode cJ7_copyOf_59c91 23 = .ok (.arraylength, 1) := by decide +kernel
theorem dJ7_copyOf_59c91_24 : decode cJ7_copyOf_59c91 24 = .ok (.iload_n 1, 1) := by decide +kernel
theorem dJ7_copyOf_59c91_25 : decode cJ7_copyOf_59c91 25 = .ok (.invokestatic 304, 3) := by decide +kernel
theorem dJ7_copyOf_59c91_28 : decode cJ7_copyOf_59c91 28 = .ok (.invokestatic 150, 3) := by decide +kernel
theorem dJ7_copyOf_59c91_31 : decode cJ7_copyOf_59c91 31 = .ok (.aload_n 2, 1) := by decide +kernel
theorem dJ7_copyOf_59c91_32 : decode cJ7_copyOf_59c91 32 = .ok (.areturn, 1) := by decide +kernel
theorem dJ3_checkFromToIndex_8c36e_0 : decode cJ3_checkFromToIndex_8c36e 0 = .ok (.iload_n 0, 1) := by decide +kernel
theorem dJ3_checkFromToIndex_8c36e_1 : decode cJ3_checkFromToIndex_8c36e 1 = .ok (.ifCond .lt 13, 3) := by decide +kernel
theorem dJ3_checkFromToIndex_8c36e_4 : decode cJ3_checkFromToIndex_8c36e 4 = .ok (.iload_n 0, 1) := by decide +kernel
theorem dJ3_checkFromToIndex_8c36e_5 : decode cJ3_checkFromToIndex_8c36e 5 = .ok (.iload_n 1, 1) := by decide +kernel
theorem dJ3_checkFromToIndex_8c36e_6 : decode cJ3_checkFromToIndex_8c36e 6 = .ok (.if_icmp .gt 8, 3) := by decide +kernel
theorem dJ3_checkFromToIndex_8c36e_9 : decode cJ3_checkFromToIndex_8c36e 9 = .ok (.iload_n 1, 1) := by decide +kernel
theorem dJ3_checkFromToIndex_8c36e_10 : decode cJ3_checkFromToIndex_8c36e 10 = .ok (.iload_n 2, 1) := by decide +kernel
theorem dJ3_checkFromToIndex_8c36e_11 : decode cJ3_checkFromToIndex_8c36e 11 = .ok (.if_icmp .le 11, 3) := by decide +kernel
theorem dJ3_checkFromToIndex_8c36e_14 : decode cJ3_checkFromToIndex_8c36e 14 = .ok (.aload_n 3, 1) := by decide +kernel
theorem dJ3_checkFromToIndex_8c36e_15 : decode cJ3_checkFromToIndex_8c36e 15 = .ok (.iload_n 0, 1) := by decide +kernel
theorem dJ3_checkFromToIndex_8c36e_16 : decode cJ3_checkFromToIndex_8c36e 16 = .ok (.iload_n 1, 1) := by decide +kernel
theorem dJ3_checkFromToIndex_8c36e_17 : decode cJ3_checkFromToIndex_8c36e 17 = .ok (.iload_n 2, 1) := by decide +kernel
theorem dJ3_checkFromToIndex_8c36e_18 : decode cJ3_checkFromToIndex_8c36e 18 = .ok (.invokestatic 99, 3) := by decide +kernel
theorem dJ3_checkFromToIndex_8c36e_21 : decode cJ3_checkFromToIndex_8c36e 21 = .ok (.athrow, 1) := by decide +kernel
theorem dJ3_checkFromToIndex_8c36e_22 : decode cJ3_checkFromToIndex_8c36e 22 = .ok (.iload_n 0, 1) := by decide +kernel
theorem dJ3_checkFromToIndex_8c36e_23 : decode cJ3_checkFromToIndex_8c36e 23 = .ok (.ireturn, 1) := by decide +kernel
end
section
theorem dX0_init_0 : decode cX0_init 0 = .ok (.aload_n 0, 1) := by decide +kernel
theorem dX0_init_1 : decode cX0_init 1 = .ok (.invokespecial 3, 3) := by decide +kernel
theorem dX0_init_4 : decode cX0_init 4 = .ok (.aload_n 0, 1) := by decide +kernel
theorem dX0_init_5 : decode cX0_init 5 = .ok (.iconst 0, 1) := by decide +kernel
theorem dX0_init_6 : decode cX0_init 6 = .ok (.putfield 9, 3) := by decide +kernel
theorem dX0_init_9 : decode cX0_init 9 = .ok (.aload_n 0, 1) := by decide +kernel
theorem dX0_init_10 : decode cX0_init 10 = .ok (.iload_n 1, 1) := by decide +kernel
theorem dX0_init_11 : decode cX0_init 11 = .ok (.iconst 0, 1) := by decide +kernel
theorem dX0_init_12 : decode cX0_init 12 = .ok (.invokestatic 15, 3) := by decide +kernel
theorem dX0_init_15 : decode cX0_init 15 = .ok (.newarray .int, 2) := by decide +kernel
theorem dX0_init_17 : decode cX0_init 17 = .ok (.putfield 21, 3) := by decide +kernel
theorem dX0_init_20 : decode cX0_init 20 = .ok (.aload_n 0, 1) := by decide +kernel
theorem dX0_init_21 : decode cX0_init 21 = .ok (.iload_n 1, 1) := by decide +kernel
theorem dX0_init_22 : decode cX0_init 22 = .ok (.iconst 0, 1) := by decide +kernel
theorem dX0_init_23 : decode cX0_init 23 = .ok (.invokestatic 15, 3) := by decide +kernel
theorem dX0_init_26 : decode cX0_init 26 = .ok (.newarray .int, 2) := by decide +kernel
theorem dX0_init_28 : decode cX0_init 28 = .ok (.putfield 25, 3) := by decide +kernel
theorem dX0_init_31 : decode cX0_init 31 = .ok (.return_, 1) := by decide +kernel
theorem dX0_add_0 : decode cX0_add 0 = .ok (.aload_n 0, 1) := by decide +kernel
theorem dX0_add_1 : decode cX0_add 1 = .ok (.getfield 9, 3) := by decide +kernel
theorem dX0_add_4 : decode cX0_add 4 = .ok (.iconst 1, 1) := by decide +kernel
theorem dX0_add_5 : decode cX0_add 5 = .ok (.isub, 1) := by decide +kernel
theorem dX0_add_6 : decode cX0_add 6 = .ok (.istore_n 3, 1) := by decide +kernel
theorem dX0_add_7 : decode cX0_add 7 = .ok (.iload_n 3, 1) := by decide +kernel
theorem dX0_add_8 : decode cX0_add 8 = .ok (.ifCond .lt 44, 3) := by decide +kernel
theorem dX0_add_11 : decode cX0_add 11 = .ok (.iload_n 3, 1) := by decide +kernel
theorem dX0_add_12 : decode cX0_add 12 = .ok (.aload_n 0, 1) := by decide +kernel
theorem dX0_add_13 : decode cX0_add 13 = .ok (.getfield 21, 3) := by decide +kernel
theorem dX0_add_16 : decode cX0_add 16 = .ok (.arraylength, 1) := by decide +kernel
theorem dX0_add_17 : decode cX0_add 17 = .ok (.if_icmp .ge 35, 3) := by decide +kernel
theorem dX0_add_20 : decode cX0_add 20 = .ok (.iload_n 3, 1) := by decide +kernel
theorem dX0_add_21 : decode cX0_add 21 = .ok (.aload_n 0, 1) := by decide +kernel
theorem dX0_add_22 : decode cX0_add 22 = .ok (.getfield 25, 3) := by decide +kernel
theorem dX0_add_25 : decode cX0_add 25 = .ok (.arraylength, 1) := by decide +kernel
theorem dX0_add_26 : decode cX0_add 26 = .ok (.if_icmp .ge 26, 3) := by decide +kernel
theorem dX0_add_29 : decode cX0_add 29 = .ok (.aload_n 0, 1) := by decide +kernel
theorem dX0_add_30 : decode cX0_add 30 = .ok (.getfield 21, 3) := by decide +kernel
theorem dX0_add_33 : decode cX0_add 33 = .ok (.iload_n 3, 1) := by decide +kernel
theorem dX0_add_34 : decode cX0_add 34 = .ok (.iaload, 1) := by decide +kernel
theorem dX0_add_35 : decode cX0_add 35 = .ok (.iload_n 1, 1) := by decide +kernel
theorem dX0_add_36 : decode cX0_add 36 = .ok (.if_icmp .ne 16, 3) := by decide +kernel
theorem dX0_add_39 : decode cX0_add 39 = .ok (.aload_n 0, 1) := by decide +kernel
theorem dX0_add_40 : decode cX0_add 40 = .ok (.getfield 25, 3) := by decide +kernel
theorem dX0_add_43 : decode cX0_add 43 = .ok (.iload_n 3, 1) := by decide +kernel
theorem dX0_add_44 : decode cX0_add 44 = .ok (.dup2, 1) := by decide +kernel
theorem dX0_add_45 : decode cX0_add 45 = .ok (.iaload, 1) := by decide +kernel
theorem dX0_add_46 : decode cX0_add 46 = .ok (.iload_n 2, 1) := by decide +kernel
theorem dX0_add_47 : decode cX0_add 47 = .ok (.iadd, 1) := by decide +kernel
theorem dX0_add_48 : decode cX0_add 48 = .ok (.iastore, 1) := by decide +kernel
theorem dX0_add_49 : decode cX0_add 49 = .ok (.goto 64, 3) := by decide +kernel
theorem dX0_add_52 : decode cX0_add 52 = .ok (.aload_n 0, 1) := by decide +kernel
theorem dX0_add_53 : decode cX0_add 53 = .ok (.getfield 9, 3) := by decide +kernel
theorem dX0_add_56 : decode cX0_add 56 = .ok (.ifCond .lt 57, 3) := by decide +kernel
theorem dX0_add_59 : decode cX0_add 59 = .ok (.aload_n 0, 1) := by decide +kernel
theorem dX0_add_60 : decode cX0_add 60 = .ok (.getfield 9, 3) := by decide +kernel
theorem dX0_add_63 : decode cX0_add 63 = .ok (.aload_n 0, 1) := by decide +kernel
theorem dX0_add_64 : decode cX0_add 64 = .ok (.getfield 21, 3) := by decide +kernel
theorem dX0_add_67 : decode cX0_add 67 = .ok (.arraylength, 1) := by decide +kernel
theorem dX0_add_68 : decode cX0_add 68 = .ok (.if_icmp .ge 45, 3) := by decide +kernel
theorem dX0_add_71 : decode cX0_add 71 = .ok (.aload_n 0, 1) := by decide +kernel
theorem dX0_add_72 : decode cX0_add 72 = .ok (.getfield 9, 3) := by decide +kernel
theorem dX0_add_75 : decode cX0_add 75 = .ok (.aload_n 0, 1) := by decide +kernel
theorem dX0_add_76 : decode cX0_add 76 = .ok (.getfield 25, 3) := by decide +kernel
theorem dX0_add_79 : decode cX0_add 79 = .ok (.arraylength, 1) := by decide +kernel
theorem dX0_add_80 : decode cX0_add 80 = .ok (.if_icmp .ge 33, 3) := by decide +kernel
theorem dX0_add_83 : decode cX0_add 83 = .ok (.aload_n 0, 1) := by decide +kernel
theorem dX0_add_84 : decode cX0_add 84 = .ok (.getfield 21, 3) := by decide +kernel
theorem dX0_add_87 : decode cX0_add 87 = .ok (.aload_n 0, 1) := by decide +kernel
theorem dX0_add_88 : decode cX0_add 88 = .ok (.getfield 9, 3) := by decide +kernel
theorem dX0_add_91 : decode cX0_add 91 = .ok (.iload_n 1, 1) := by decide +kernel
theorem dX0_add_92 : decode cX0_add 92 = .ok (.iastore, 1) := by decide +kernel
theorem dX0_add_93 : decode cX0_add 93 = .ok (.aload_n 0, 1) := by decide +kernel
theorem dX0_add_94 : decode cX0_add 94 = .ok (.getfield 25, 3) := by decide +kernel
theorem dX0_add_97 : decode cX0_add 97 = .ok (.aload_n 0, 1) := by decide +kernel
theorem dX0_add_98 : decode cX0_add 98 = .ok (.getfield 9, 3) := by decide +kernel
theorem dX0_add_101 : decode cX0_add 101 = .ok (.iload_n 2, 1) := by decide +kernel
theorem dX0_add_102 : decode cX0_add 102 = .ok (.iastore, 1) := by decide +kernel
theorem dX0_add_103 : decode cX0_add 103 = .ok (.aload_n 0, 1) := by decide +kernel
theorem dX0_add_104 : decode cX0_add 104 = .ok (.dup, 1) := by decide +kernel
theorem dX0_add_105 : decode cX0_add 105 = .ok (.getfield 9, 3) := by decide +kernel
theorem dX0_add_108 : decode cX0_add 108 = .ok (.iconst 1, 1) := by decide +kernel
theorem dX0_add_109 : decode cX0_add 109 = .ok (.iadd, 1) := by decide +kernel
theorem dX0_add_110 : decode cX0_add 110 = .ok (.putfield 9, 3) := by decide +kernel
theorem dX0_add_113 : decode cX0_add 113 = .ok (.return_, 1) := by decide +kernel
set_option maxRecDepth 20000 in
theorem ggX0_equalTo_X0_signOf : GoodIn wsX0_equalTo wsX0_signOf := goodIn_r _ [6, 7, 13, 14, 15] (by decide +kernel) (by decide +kernel)
set_option maxRecDepth 20000 in
theorem gX0_equalTo_X0_signOf : GoodIn wsX0_equalTo (wsV RX0 28 RX0 yX0_signOf wsX0_signOf) := goodIn_app (goodIn_of _ (by decide +kernel)) ggX0_equalTo_X0_signOf
set_option maxRecDepth 20000 in
theorem ggX0_equalTo_X0_timesOf : GoodIn wsX0_equalTo wsX0_timesOf := goodIn_r _ [11, 12, 13, 14, 15] (by decide +kernel) (by decide +kernel)
set_option maxRecDepth 20000 in
theorem gX0_equalTo_X0_timesOf : GoodIn wsX0_equalTo (wsV RX0 32 RX0 yX0_timesOf wsX0_timesOf) := goodIn_app (goodIn_of _ (by decide +kernel)) ggX0_equalTo_X0_timesOf
theorem dX0_equalTo_0 : decode cX0_equalTo 0 = .ok (.aload_n 1, 1) := by decide +kernel
theorem dX0_equalTo_1 : decode cX0_equalTo 1 = .ok (.ifnull 14, 3) := by decide +kernel
theorem dX0_equalTo_4 : decode cX0_equalTo 4 = .ok (.aload_n 1, 1) := by decide +kernel
theorem dX0_equalTo_5 : decode cX0_equalTo 5 = .ok (.getfield 9, 3) := by decide +kernel
theorem dX0_equalTo_8 : decode cX0_equalTo 8 = .ok (.aload_n 0, 1) := by decide +kernel
theorem dX0_equalTo_9 : decode cX0_equalTo 9 = .ok (.getfield 9, 3) := by decide +kernel
theorem dX0_equalTo_12 : decode cX0_equalTo 12 = .ok (.if_icmp .eq 5, 3) := by decide +kernel
theorem dX0_equalTo_15 : decode cX0_equalTo 15 = .ok (.iconst 0, 1) := by decide +kernel
theorem dX0_equalTo_16 : decode cX0_equalTo 16 = .ok (.ireturn, 1) := by decide +kernel
theorem dX0_equalTo_17 : decode cX0_equalTo 17 = .ok (.iconst 0, 1) := by decide +kernel
theorem dX0_equalTo_18 : decode cX0_equalTo 18 = .ok (.istore_n 2, 1) := by decide +kernel
theorem dX0_equalTo_19 : decode cX0_equalTo 19 = .ok (.iload_n 2, 1) := by decide +kernel
theorem dX0_equalTo_20 : decode cX0_equalTo 20 = .ok (.aload_n 0, 1) := by decide +kernel
theorem dX0_equalTo_21 : decode cX0_equalTo 21 = .ok (.getfield 9, 3) := by decide +kernel
theorem dX0_equalTo_24 : decode cX0_equalTo 24 = .ok (.if_icmp .ge 37, 3) := by decide +kernel
theorem dX0_equalTo_27 : decode cX0_equalTo 27 = .ok (.aload_n 0, 1) := by decide +kernel
theorem dX0_equalTo_28 : decode cX0_equalTo 28 = .ok (.iload_n 2, 1) := by decide +kernel
theorem dX0_equalTo_29 : decode cX0_equalTo 29 = .ok (.invokevirtual 28, 3) := by decide +kernel
theorem dX0_equalTo_32 : decode cX0_equalTo 32 = .ok (.aload_n 1, 1) := by decide +kernel
theorem dX0_equalTo_33 : decode cX0_equalTo 33 = .ok (.iload_n 2, 1) := by decide +kernel
theorem dX0_equalTo_34 : decode cX0_equalTo 34 = .ok (.invokevirtual 28, 3) := by decide +kernel
theorem dX0_equalTo_37 : decode cX0_equalTo 37 = .ok (.if_icmp .ne 16, 3) := by decide +kernel
theorem dX0_equalTo_40 : decode cX0_equalTo 40 = .ok (.aload_n 0, 1) := by decide +kernel
theorem dX0_equalTo_41 : decode cX0_equalTo 41 = .ok (.iload_n 2, 1) := by decide +kernel
theorem dX0_equalTo_42 : decode cX0_equalTo 42 = .ok (.invokevirtual 32, 3) := by decide +kernel
theorem dX0_equalTo_45 : decode cX0_equalTo 45 = .ok (.aload_n 1, 1) := by decide +kernel
theorem dX0_equalTo_46 : decode cX0_equalTo 46 = .ok (.iload_n 2, 1) := by decide +kernel
theorem dX0_equalTo_47 : decode cX0_equalTo 47 = .ok (.invokevirtual 32, 3) := by decide +kernel
theorem dX0_equalTo_50 : decode cX0_equalTo 50 = .ok (.if_icmp .eq 5, 3) := by decide +kernel
theorem dX0_equalTo_53 : decode cX0_equalTo 53 = .ok (.iconst 0, 1) := by decide +kernel
theorem dX0_equalTo_54 : decode cX0_equalTo 54 = .ok (.ireturn, 1) := by decide +kernel
theorem dX0_equalTo_55 : decode cX0_equalTo 55 = .ok (.iinc 2 1, 3) := by decide +kernel
theorem dX0_equalTo_58 : decode cX0_equalTo 58 = .ok (.goto (-39), 3) := by decide +kernel
theorem dX0_equalTo_61 : decode cX0_equalTo 61 = .ok (.iconst 1, 1) := by decide +kernel
theorem dX0_equalTo_62 : decode cX0_equalTo 62 = .ok (.ireturn, 1) := by decide +kernel
theorem dX0_signOf_0 : decode cX0_signOf 0 = .ok (.iload_n 1, 1) := by decide +kernel
theorem dX0_signOf_1 : decode cX0_signOf 1 = .ok (.ifCond .lt 21, 3) := by decide +kernel
theorem dX0_signOf_4 : decode cX0_signOf 4 = .ok (.iload_n 1, 1) := by decide +kernel
theorem dX0_signOf_5 : decode cX0_signOf 5 = .ok (.aload_n 0, 1) := by decide +kernel
theorem dX0_signOf_6 : decode cX0_signOf 6 = .ok (.getfield 21, 3) := by decide +kernel
theorem dX0_signOf_9 : decode cX0_signOf 9 = .ok (.arraylength, 1) := by decide +kernel
theorem dX0_signOf_10 : decode cX0_signOf 10 = .ok (.if_icmp .ge 12, 3) := by decide +kernel
theorem dX0_signOf_13 : decode cX0_signOf 13 = .ok (.aload_n 0, 1) := by decide +kernel
theorem dX0_signOf_14 : decode cX0_signOf 14 = .ok (.getfield 21, 3) := by decide +kernel
theorem dX0_signOf_17 : decode cX0_signOf 17 = .ok (.iload_n 1, 1) := by decide +kernel
theorem dX0_signOf_18 : decode cX0_signOf 18 = .ok (.iaload, 1) := by decide +kernel
theorem dX0_signOf_19 : decode cX0_signOf 19 = .ok (.goto 4, 3) := by decide +kernel
theorem dX0_signOf_22 : decode cX0_signOf 22 = .ok (.iconst (-1), 1) := by decide +kernel
theorem dX0_signOf_23 : decode cX0_signOf 23 = .ok (.ireturn, 1) := by decide +kernel
theorem dX0_timesOf_0 : decode cX0_timesOf 0 = .ok (.iload_n 1, 1) := by decide +kernel
theorem dX0_timesOf_1 : decode cX0_timesOf 1 = .ok (.ifCond .lt 21, 3) := by decide +kernel
theorem dX0_timesOf_4 : decode cX0_timesOf 4 = .ok (.iload_n 1, 1) := by decide +kernel
theorem dX0_timesOf_5 : decode cX0_timesOf 5 = .ok (.aload_n 0, 1) := by decide +kernel
theorem dX0_timesOf_6 : decode cX0_timesOf 6 = .ok (.getfield 25, 3) := by decide +kernel
theorem dX0_timesOf_9 : decode cX0_timesOf 9 = .ok (.arraylength, 1) := by decide +kernel
theorem dX0_timesOf_10 : decode cX0_timesOf 10 = .ok (.if_icmp .ge 12, 3) := by decide +kernel
theorem dX0_timesOf_13 : decode cX0_timesOf 13 = .ok (.aload_n 0, 1) := by decide +kernel
theorem dX0_timesOf_14 : decode cX0_timesOf 14 = .ok (.getfield 25, 3) := by decide +kernel
theorem dX0_timesOf_17 : decode cX0_timesOf 17 = .ok (.iload_n 1, 1) := by decide +kernel
theorem dX0_timesOf_18 : decode cX0_timesOf 18 = .ok (.iaload, 1) := by decide +kernel
theorem dX0_timesOf_19 : decode cX0_timesOf 19 = .ok (.goto 4, 3) := by decide +kernel
theorem dX0_timesOf_22 : decode cX0_timesOf 22 = .ok (.iconst 0, 1) := by decide +kernel
theorem dX0_timesOf_23 : decode cX0_timesOf 23 = .ok (.ireturn, 1) := by decide +kernel
end
section
set_option maxRecDepth 20000 in
theorem ggX1_init_X2_kindsPresent : GoodIn wsX1_init wsX2_kindsPresent := goodIn_r _ [26, 27, 28, 96, 97, 98, 99, 100, 101] (by decide +kernel) (by decide +kernel)
set_option maxRecDepth 20000 in
theorem gX1_init_X2_kindsPresent : GoodIn wsX1_init (wsV RX1 21 RX2 yX2_kindsPresent wsX2_kindsPresent) := goodIn_app (goodIn_of _ (by decide +kernel)) ggX1_init_X2_kindsPresent
set_option maxRecDepth 20000 in
theorem ggX1_init_X2_pointRun : GoodIn wsX1_init wsX2_pointRun := goodIn_r _ [32, 27, 33, 28, 34, 35, 36, 96, 97, 98, 99, 100, 101] (by decide +kernel) (by decide +kernel)
set_option maxRecDepth 20000 in
theorem gX1_init_X2_pointRun : GoodIn wsX1_init (wsV RX1 25 RX2 yX2_pointRun wsX2_pointRun) := goodIn_app (goodIn_of _ (by decide +kernel)) ggX1_init_X2_pointRun
set_option maxRecDepth 20000 in
theorem ggX1_init_J7_copyOf_59c91 : GoodIn wsX1_init wsJ7_copyOf_59c91 := goodIn_r _ [40, 41, 42, 43, 44, 45, 46, 47, 48, 49, 6, 50, 51, 52, 53, 54] (by decide +kernel) (by decide +kernel)
set_option maxRecDepth 20000 in
theorem gX1_init_J7_copyOf_59c91 : GoodIn wsX1_init (va_wsS RX1 32 yJ7_copyOf_59c91 wsJ7_copyOf_59c91) := goodIn_app (goodIn_of _ (by decide +kernel)) ggX1_init_J7_copyOf_59c91
set_option maxRecDepth 20000 in
theorem ggX1_init_X2_allSignsCounted : GoodIn wsX1_init wsX2_allSignsCounted := goodIn_r _ [58, 27, 59, 60, 61, 35, 62, 63, 64, 65, 96, 97, 98, 99, 100, 101] (by decide +kernel) (by decide +kernel)
set_option maxRecDepth 20000 in
theorem gX1_init_X2_allSignsCounted : GoodIn wsX1_init (wsV RX1 52 RX2 yX2_allSignsCounted wsX2_allSignsCounted) := goodIn_app (goodIn_of _ (by decide +kernel)) ggX1_init_X2_allSignsCounted
set_option maxRecDepth 20000 in
theorem ggX1_init_X2_categoryOf : GoodIn wsX1_init wsX2_categoryOf := goodIn_r _ [69, 27, 70, 34, 35, 36, 71, 72, 73, 25, 74, 59, 96, 97, 98, 99, 100, 101] (by decide +kernel) (by decide +kernel)
set_option maxRecDepth 20000 in
theorem gX1_init_X2_categoryOf : GoodIn wsX1_init (wsV RX1 58 RX2 yX2_categoryOf wsX2_categoryOf) := goodIn_app (goodIn_of _ (by decide +kernel)) ggX1_init_X2_categoryOf
set_option maxRecDepth 20000 in
theorem ggX1_init_X2_digitsIn : GoodIn wsX1_init wsX2_digitsIn := goodIn_r _ [78, 79, 5, 6, 7, 27, 80, 96, 97, 98, 99, 100, 101] (by decide +kernel) (by decide +kernel)
set_option maxRecDepth 20000 in
theorem gX1_init_X2_digitsIn : GoodIn wsX1_init (wsV RX1 65 RX2 yX2_digitsIn wsX2_digitsIn) := goodIn_app (goodIn_of _ (by decide +kernel)) ggX1_init_X2_digitsIn
set_option maxRecDepth 20000 in
theorem ggX1_init_X4_holds : GoodIn wsX1_init wsX4_holds := goodIn_r _ [36] (by decide +kernel) (by decide +kernel)
set_option maxRecDepth 20000 in
theorem gX1_init_X4_holds_n74 : GoodIn wsX1_init (wsX4_holds) := ggX1_init_X4_holds
set_option maxRecDepth 20000 in
theorem ggX1_init_X2_countOf : GoodIn wsX1_init wsX2_countOf := goodIn_r _ [83, 27, 59, 60, 96, 97, 98, 99, 100, 101] (by decide +kernel) (by decide +kernel)
set_option maxRecDepth 20000 in
theorem gX1_init_X2_countOf_n78 : GoodIn wsX1_init (wsX2_countOf) := ggX1_init_X2_countOf
set_option maxRecDepth 20000 in
theorem ggX1_init_X0_init : GoodIn wsX1_init wsX0_init := goodIn_r _ [86, 87, 2, 3, 88, 89, 5, 6, 7, 47, 90, 91, 112, 113, 114] (by decide +kernel) (by decide +kernel)
set_option maxRecDepth 20000 in
theorem gX1_init_X0_init : GoodIn wsX1_init (wsX0_init) := ggX1_init_X0_init
set_option maxRecDepth 20000 in
theorem ggX1_init_X0_add : GoodIn wsX1_init wsX0_add := goodIn_r _ [95, 88, 90, 91, 112, 113, 114] (by decide +kernel) (by decide +kernel)
set_option maxRecDepth 20000 in
theorem gX1_init_X0_add : GoodIn wsX1_init (wsV RX1 94 RX0 yX0_add wsX0_add) := goodIn_app (goodIn_of _ (by decide +kernel)) ggX1_init_X0_add
theorem dX1_init_0 : decode cX1_init 0 = .ok (.aload_n 0, 1) := by decide +kernel
theorem dX1_init_1 : decode cX1_init 1 = .ok (.invokespecial 3, 3) := by decide +kernel
theorem dX1_init_4 : decode cX1_init 4 = .ok (.aload_n 1, 1) := by decide +kernel
theorem dX1_init_5 : decode cX1_init 5 = .ok (.getfield 9, 3) := by decide +kernel
theorem dX1_init_8 : decode cX1_init 8 = .ok (.iconst 0, 1) := by decide +kernel
theorem dX1_init_9 : decode cX1_init 9 = .ok (.invokestatic 15, 3) := by decide +kernel
theorem dX1_init_12 : decode cX1_init 12 = .ok (.istore_n 3, 1) := by decide +kernel
theorem dX1_init_13 : decode cX1_init 13 = .ok (.aload_n 1, 1) := by decide +kernel
theorem dX1_init_14 : decode cX1_init 14 = .ok (.invokevirtual 21, 3) := by decide +kernel
theorem dX1_init_17 : decode cX1_init 17 = .ok (.istore 4, 2) := by decide +kernel
theorem dX1_init_19 : decode cX1_init 19 = .ok (.aload_n 1, 1) := by decide +kernel
theorem dX1_init_20 : decode cX1_init 20 = .ok (.invokevirtual 25, 3) := by decide +kernel
theorem dX1_init_23 : decode cX1_init 23 = .ok (.istore 5, 2) := by decide +kernel
theorem dX1_init_25 : decode cX1_init 25 = .ok (.aload_n 0, 1) := by decide +kernel
theorem dX1_init_26 : decode cX1_init 26 = .ok (.aload_n 1, 1) := by decide +kernel
theorem dX1_init_27 : decode cX1_init 27 = .ok (.getfield 28, 3) := by decide +kernel
theorem dX1_init_30 : decode cX1_init 30 = .ok (.iload_n 3, 1) := by decide +kernel
theorem dX1_init_31 : decode cX1_init 31 = .ok (.invokestatic 32, 3) := by decide +kernel
theorem dX1_init_34 : decode cX1_init 34 = .ok (.putfield 38, 3) := by decide +kernel
theorem dX1_init_37 : decode cX1_init 37 = .ok (.aload_n 0, 1) := by decide +kernel
theorem dX1_init_38 : decode cX1_init 38 = .ok (.aload_n 1, 1) := by decide +kernel
theorem dX1_init_39 : decode cX1_init 39 = .ok (.getfield 41, 3) := by decide +kernel
theorem dX1_init_42 : decode cX1_init 42 = .ok (.iload_n 3, 1) := by decide +kernel
theorem dX1_init_43 : decode cX1_init 43 = .ok (.invokestatic 32, 3) := by decide +kernel
theorem dX1_init_46 : decode cX1_init 46 = .ok (.putfield 44, 3) := by decide +kernel
theorem dX1_init_49 : decode cX1_init 49 = .ok (.aload_n 0, 1) := by decide +kernel
theorem dX1_init_50 : decode cX1_init 50 = .ok (.aload_n 1, 1) := by decide +kernel
theorem dX1_init_51 : decode cX1_init 51 = .ok (.getfield 45, 3) := by decide +kernel
theorem dX1_init_54 : decode cX1_init 54 = .ok (.iload_n 3, 1) := by decide +kernel
theorem dX1_init_55 : decode cX1_init 55 = .ok (.invokestatic 32, 3) := by decide +kernel
theorem dX1_init_58 : decode cX1_init 58 = .ok (.putfield 48, 3) := by decide +kernel
theorem dX1_init_61 : decode cX1_init 61 = .ok (.aload_n 0, 1) := by decide +kernel
theorem dX1_init_62 : decode cX1_init 62 = .ok (.iload_n 2, 1) := by decide +kernel
theorem dX1_init_63 : decode cX1_init 63 = .ok (.putfield 49, 3) := by decide +kernel
theorem dX1_init_66 : decode cX1_init 66 = .ok (.aload_n 0, 1) := by decide +kernel
theorem dX1_init_67 : decode cX1_init 67 = .ok (.aload_n 1, 1) := by decide +kernel
theorem dX1_init_68 : decode cX1_init 68 = .ok (.invokevirtual 52, 3) := by decide +kernel
theorem dX1_init_71 : decode cX1_init 71 = .ok (.putfield 55, 3) := by decide +kernel
theorem dX1_init_74 : decode cX1_init 74 = .ok (.aload_n 0, 1) := by decide +kernel
theorem dX1_init_75 : decode cX1_init 75 = .ok (.aload_n 1, 1) := by decide +kernel
theorem dX1_init_76 : decode cX1_init 76 = .ok (.iload 4, 2) := by decide +kernel
theorem dX1_init_78 : decode cX1_init 78 = .ok (.invokevirtual 58, 3) := by decide +kernel
theorem dX1_init_81 : decode cX1_init 81 = .ok (.putfield 62, 3) := by decide +kernel
theorem dX1_init_84 : decode cX1_init 84 = .ok (.aload_n 0, 1) := by decide +kernel
theorem dX1_init_85 : decode cX1_init 85 = .ok (.aload_n 1, 1) := by decide +kernel
theorem dX1_init_86 : decode cX1_init 86 = .ok (.iconst 0, 1) := by decide +kernel
theorem dX1_init_87 : decode cX1_init 87 = .ok (.iload 5, 2) := by decide +kernel
theorem dX1_init_89 : decode cX1_init 89 = .ok (.invokevirtual 65, 3) := by decide +kernel
theorem dX1_init_92 : decode cX1_init 92 = .ok (.putfield 68, 3) := by decide +kernel
theorem dX1_init_95 : decode cX1_init 95 = .ok (.aload_n 0, 1) := by decide +kernel
theorem dX1_init_96 : decode cX1_init 96 = .ok (.aload_n 1, 1) := by decide +kernel
theorem dX1_init_97 : decode cX1_init 97 = .ok (.iload 5, 2) := by decide +kernel
theorem dX1_init_99 : decode cX1_init 99 = .ok (.iload_n 3, 1) := by decide +kernel
theorem dX1_init_100 : decode cX1_init 100 = .ok (.invokevirtual 65, 3) := by decide +kernel
theorem dX1_init_103 : decode cX1_init 103 = .ok (.putfield 71, 3) := by decide +kernel
theorem dX1_init_106 : decode cX1_init 106 = .ok (.aload_n 0, 1) := by decide +kernel
theorem dX1_init_107 : decode cX1_init 107 = .ok (.iload 4, 2) := by decide +kernel
theorem dX1_init_109 : decode cX1_init 109 = .ok (.bipush 17, 2) := by decide +kernel
theorem dX1_init_111 : decode cX1_init 111 = .ok (.invokestatic 74, 3) := by decide +kernel
theorem dX1_init_114 : decode cX1_init 114 = .ok (.ifCond .eq 13, 3) := by decide +kernel
theorem dX1_init_117 : decode cX1_init 117 = .ok (.aload_n 1, 1) := by decide +kernel
theorem dX1_init_118 : decode cX1_init 118 = .ok (.bipush 80, 2) := by decide +kernel
theorem dX1_init_120 : decode cX1_init 120 = .ok (.invokevirtual 78, 3) := by decide +kernel
theorem dX1_init_123 : decode cX1_init 123 = .ok (.ineg, 1) := by decide +kernel
theorem dX1_init_124 : decode cX1_init 124 = .ok (.goto 7, 3) := by decide +kernel
theorem dX1_init_127 : decode cX1_init 127 = .ok (.aload_n 0, 1) := by decide +kernel
theorem dX1_init_128 : decode cX1_init 128 = .ok (.getfield 71, 3) := by decide +kernel
theorem dX1_init_131 : decode cX1_init 131 = .ok (.putfield 81, 3) := by decide +kernel
theorem dX1_init_134 : decode cX1_init 134 = .ok (.aload_n 0, 1) := by decide +kernel
theorem dX1_init_135 : decode cX1_init 135 = .ok (.getfield 71, 3) := by decide +kernel
theorem dX1_init_138 : decode cX1_init 138 = .ok (.ifCond .eq 11, 3) := by decide +kernel
theorem dX1_init_141 : decode cX1_init 141 = .ok (.iload 4, 2) := by decide +kernel
theorem dX1_init_143 : decode cX1_init 143 = .ok (.ldc 84, 2) := by decide +kernel
theorem dX1_init_145 : decode cX1_init 145 = .ok (.iand, 1) := by decide +kernel
theorem dX1_init_146 : decode cX1_init 146 = .ok (.ifCond .eq 7, 3) := by decide +kernel
theorem dX1_init_149 : decode cX1_init 149 = .ok (.iconst 1, 1) := by decide +kernel
theorem dX1_init_150 : decode cX1_init 150 = .ok (.goto 4, 3) := by decide +kernel
theorem dX1_init_153 : decode cX1_init 153 = .ok (.iconst 0, 1) := by decide +kernel
theorem dX1_init_154 : decode cX1_init 154 = .ok (.istore 6, 2) := by decide +kernel
theorem dX1_init_156 : decode cX1_init 156 = .ok (.aload_n 0, 1) := by decide +kernel
theorem dX1_init_157 : decode cX1_init 157 = .ok (.new 85, 3) := by decide +kernel
theorem dX1_init_160 : decode cX1_init 160 = .ok (.dup, 1) := by decide +kernel
theorem dX1_init_161 : decode cX1_init 161 = .ok (.iload_n 3, 1) := by decide +kernel
theorem dX1_init_162 : decode cX1_init 162 = .ok (.invokespecial 87, 3) := by decide +kernel
theorem dX1_init_165 : decode cX1_init 165 = .ok (.putfield 90, 3) := by decide +kernel
theorem dX1_init_168 : decode cX1_init 168 = .ok (.iconst 0, 1) := by decide +kernel
theorem dX1_init_169 : decode cX1_init 169 = .ok (.istore 7, 2) := by decide +kernel
theorem dX1_init_171 : decode cX1_init 171 = .ok (.iload 7, 2) := by decide +kernel
theorem dX1_init_173 : decode cX1_init 173 = .ok (.iload_n 3, 1) := by decide +kernel
theorem dX1_init_174 : decode cX1_init 174 = .ok (.if_icmp .ge 67, 3) := by decide +kernel
theorem dX1_init_177 : decode cX1_init 177 = .ok (.iload 7, 2) := by decide +kernel
theorem dX1_init_179 : decode cX1_init 179 = .ok (.aload_n 0, 1) := by decide +kernel
theorem dX1_init_180 : decode cX1_init 180 = .ok (.getfield 38, 3) := by decide +kernel
theorem dX1_init_183 : decode cX1_init 183 = .ok (.arraylength, 1) := by decide +kernel
theorem dX1_init_184 : decode cX1_init 184 = .ok (.if_icmp .ge 57, 3) := by decide +kernel
theorem dX1_init_187 : decode cX1_init 187 = .ok (.iload 7, 2) := by decide +kernel
theorem dX1_init_189 : decode cX1_init 189 = .ok (.aload_n 0, 1) := by decide +kernel
theorem dX1_init_190 : decode cX1_init 190 = .ok (.getfield 44, 3) := by decide +kernel
theorem dX1_init_193 : decode cX1_init 193 = .ok (.arraylength, 1) := by decide +kernel
theorem dX1_init_194 : decode cX1_init 194 = .ok (.if_icmp .ge 47, 3) := by decide +kernel
theorem dX1_init_197 : decode cX1_init 197 = .ok (.aload_n 0, 1) := by decide +kernel
theorem dX1_init_198 : decode cX1_init 198 = .ok (.getfield 38, 3) := by decide +kernel
theorem dX1_init_201 : decode cX1_init 201 = .ok (.iload 7, 2) := by decide +kernel
theorem dX1_init_203 : decode cX1_init 203 = .ok (.iaload, 1) := by decide +kernel
theorem dX1_init_204 : decode cX1_init 204 = .ok (.bipush 86, 2) := by decide +kernel
theorem dX1_init_206 : decode cX1_init 206 = .ok (.if_icmp .ne 8, 3) := by decide +kernel
theorem dX1_init_209 : decode cX1_init 209 = .ok (.iload 6, 2) := by decide +kernel
theorem dX1_init_211 : decode cX1_init 211 = .ok (.ifCond .ne 24, 3) := by decide +kernel
theorem dX1_init_214 : decode cX1_init 214 = .ok (.aload_n 0, 1) := by decide +kernel
theorem dX1_init_215 : decode cX1_init 215 = .ok (.getfield 90, 3) := by decide +kernel
theorem dX1_init_218 : decode cX1_init 218 = .ok (.aload_n 0, 1) := by decide +kernel
theorem dX1_init_219 : decode cX1_init 219 = .ok (.getfield 38, 3) := by decide +kernel
theorem dX1_init_222 : decode cX1_init 222 = .ok (.iload 7, 2) := by decide +kernel
theorem dX1_init_224 : decode cX1_init 224 = .ok (.iaload, 1) := by decide +kernel
theorem dX1_init_225 : decode cX1_init 225 = .ok (.aload_n 0, 1) := by decide +kernel
theorem dX1_init_226 : decode cX1_init 226 = .ok (.getfield 44, 3) := by decide +kernel
theorem dX1_init_229 : decode cX1_init 229 = .ok (.iload 7, 2) := by decide +kernel
theorem dX1_init_231 : decode cX1_init 231 = .ok (.iaload, 1) := by decide +kernel
theorem dX1_init_232 : decode cX1_init 232 = .ok (.invokevirtual 94, 3) := by decide +kernel
theorem dX1_init_235 : decode cX1_init 235 = .ok (.iinc 7 1, 3) := by decide +kernel
theorem dX1_init_238 : decode cX1_init 238 = .ok (.goto (-67), 3) := by decide +kernel
theorem dX1_init_241 : decode cX1_init 241 = .ok (.return_, 1) := by decide +kernel
theorem dX1_isNumber_0 : decode cX1_isNumber 0 = .ok (.aload_n 0, 1) := by decide +kernel
theorem dX1_isNumber_1 : decode cX1_isNumber 1 = .ok (.getfield 62, 3) := by decide +kernel
theorem dX1_isNumber_4 : decode cX1_isNumber 4 = .ok (.iconst 3, 1) := by decide +kernel
theorem dX1_isNumber_5 : decode cX1_isNumber 5 = .ok (.if_icmp .eq 11, 3) := by decide +kernel
theorem dX1_isNumber_8 : decode cX1_isNumber 8 = .ok (.aload_n 0, 1) := by decide +kernel
theorem dX1_isNumber_9 : decode cX1_isNumber 9 = .ok (.getfield 62, 3) := by decide +kernel
theorem dX1_isNumber_12 : decode cX1_isNumber 12 = .ok (.iconst 4, 1) := by decide +kernel
theorem dX1_isNumber_13 : decode cX1_isNumber 13 = .ok (.if_icmp .ne 7, 3) := by decide +kernel
theorem dX1_isNumber_16 : decode cX1_isNumber 16 = .ok (.iconst 1, 1) := by decide +kernel
theorem dX1_isNumber_17 : decode cX1_isNumber 17 = .ok (.goto 4, 3) := by decide +kernel
theorem dX1_isNumber_20 : decode cX1_isNumber 20 = .ok (.iconst 0, 1) := by decide +kernel
theorem dX1_isNumber_21 : decode cX1_isNumber 21 = .ok (.ireturn, 1) := by decide +kernel
set_option maxRecDepth 20000 in
theorem ggX1_characterAt_X4_widthOf : GoodIn wsX1_characterAt wsX4_widthOf := goodIn_r _ [5] (by decide +kernel) (by decide +kernel)
set_option maxRecDepth 20000 in
theorem gX1_characterAt_X4_widthOf_n98 : GoodIn wsX1_characterAt (wsX4_widthOf) := ggX1_characterAt_X4_widthOf
set_option maxRecDepth 20000 in
theorem ggX1_characterAt_X1_letterOf : GoodIn wsX1_characterAt wsX1_letterOf := goodIn_r _ [10, 11, 12, 13, 14, 15, 16, 17, 18, 19, 20, 21] (by decide +kernel) (by decide +kernel)
set_option maxRecDepth 20000 in
theorem gX1_characterAt_X1_letterOf : GoodIn wsX1_characterAt (wsV RX1 101 RX1 yX1_letterOf wsX1_letterOf) := goodIn_app (goodIn_of _ (by decide +kernel)) ggX1_characterAt_X1_letterOf
theorem dX1_characterAt_0 : decode cX1_characterAt 0 = .ok (.iload_n 1, 1) := by decide +kernel
theorem dX1_characterAt_1 : decode cX1_characterAt 1 = .ok (.ifCond .ge 5, 3) := by decide +kernel
theorem dX1_characterAt_4 : decode cX1_characterAt 4 = .ok (.iconst (-1), 1) := by decide +kernel
theorem dX1_characterAt_5 : decode cX1_characterAt 5 = .ok (.ireturn, 1) := by decide +kernel
theorem dX1_characterAt_6 : decode cX1_characterAt 6 = .ok (.iload_n 1, 1) := by decide +kernel
theorem dX1_characterAt_7 : decode cX1_characterAt 7 = .ok (.istore_n 2, 1) := by decide +kernel
theorem dX1_characterAt_8 : decode cX1_characterAt 8 = .ok (.iconst 0, 1) := by decide +kernel
theorem dX1_characterAt_9 : decode cX1_characterAt 9 = .ok (.istore_n 3, 1) := by decide +kernel
theorem dX1_characterAt_10 : decode cX1_characterAt 10 = .ok (.iload_n 3, 1) := by decide +kernel
theorem dX1_characterAt_11 : decode cX1_characterAt 11 = .ok (.aload_n 0, 1) := by decide +kernel
theorem dX1_characterAt_12 : decode cX1_characterAt 12 = .ok (.getfield 38, 3) := by decide +kernel
theorem dX1_characterAt_15 : decode cX1_characterAt 15 = .ok (.arraylength, 1) := by decide +kernel
theorem dX1_characterAt_16 : decode cX1_characterAt 16 = .ok (.if_icmp .ge 59, 3) := by decide +kernel
theorem dX1_characterAt_19 : decode cX1_characterAt 19 = .ok (.iload_n 3, 1) := by decide +kernel
theorem dX1_characterAt_20 : decode cX1_characterAt 20 = .ok (.aload_n 0, 1) := by decide +kernel
theorem dX1_characterAt_21 : decode cX1_characterAt 21 = .ok (.getfield 44, 3) := by decide +kernel
theorem dX1_characterAt_24 : decode cX1_characterAt 24 = .ok (.arraylength, 1) := by decide +kernel
theorem dX1_characterAt_25 : decode cX1_characterAt 25 = .ok (.if_icmp .ge 50, 3) := by decide +kernel
theorem dX1_characterAt_28 : decode cX1_characterAt 28 = .ok (.aload_n 0, 1) := by decide +kernel
theorem dX1_characterAt_29 : decode cX1_characterAt 29 = .ok (.getfield 44, 3) := by decide +kernel
theorem dX1_characterAt_32 : decode cX1_characterAt 32 = .ok (.iload_n 3, 1) := by decide +kernel
theorem dX1_characterAt_33 : decode cX1_characterAt 33 = .ok (.iaload, 1) := by decide +kernel
theorem dX1_characterAt_34 : decode cX1_characterAt 34 = .ok (.aload_n 0, 1) := by decide +kernel
theorem dX1_characterAt_35 : decode cX1_characterAt 35 = .ok (.getfield 38, 3) := by decide +kernel
theorem dX1_characterAt_38 : decode cX1_characterAt 38 = .ok (.iload_n 3, 1) := by decide +kernel
theorem dX1_characterAt_39 : decode cX1_characterAt 39 = .ok (.iaload, 1) := by decide +kernel
theorem dX1_characterAt_40 : decode cX1_characterAt 40 = .ok (.invokestatic 98, 3) := by decide +kernel
theorem dX1_characterAt_43 : decode cX1_characterAt 43 = .ok (.imul, 1) := by decide +kernel
theorem dX1_characterAt_44 : decode cX1_characterAt 44 = .ok (.istore 4, 2) := by decide +kernel
theorem dX1_characterAt_46 : decode cX1_characterAt 46 = .ok (.iload_n 2, 1) := by decide +kernel
theorem dX1_characterAt_47 : decode cX1_characterAt 47 = .ok (.iload 4, 2) := by decide +kernel
theorem dX1_characterAt_49 : decode cX1_characterAt 49 = .ok (.if_icmp .ge 15, 3) := by decide +kernel
theorem dX1_characterAt_52 : decode cX1_characterAt 52 = .ok (.aload_n 0, 1) := by decide +kernel
theorem dX1_characterAt_53 : decode cX1_characterAt 53 = .ok (.aload_n 0, 1) := by decide +kernel
theorem dX1_characterAt_54 : decode cX1_characterAt 54 = .ok (.getfield 38, 3) := by decide +kernel
theorem dX1_characterAt_57 : decode cX1_characterAt 57 = .ok (.iload_n 3, 1) := by decide +kernel
theorem dX1_characterAt_58 : decode cX1_characterAt 58 = .ok (.iaload, 1) := by decide +kernel
theorem dX1_characterAt_59 : decode cX1_characterAt 59 = .ok (.iload_n 2, 1) := by decide +kernel
theorem dX1_characterAt_60 : decode cX1_characterAt 60 = .ok (.invokevirtual 101, 3) := by decide +kernel
theorem dX1_characterAt_63 : decode cX1_characterAt 63 = .ok (.ireturn, 1) := by decide +kernel
theorem dX1_characterAt_64 : decode cX1_characterAt 64 = .ok (.iload_n 2, 1) := by decide +kernel
theorem dX1_characterAt_65 : decode cX1_characterAt 65 = .ok (.iload 4, 2) := by decide +kernel
theorem dX1_characterAt_67 : decode cX1_characterAt 67 = .ok (.isub, 1) := by decide +kernel
theorem dX1_characterAt_68 : decode cX1_characterAt 68 = .ok (.istore_n 2, 1) := by decide +kernel
theorem dX1_characterAt_69 : decode cX1_characterAt 69 = .ok (.iinc 3 1, 3) := by decide +kernel
theorem dX1_characterAt_72 : decode cX1_characterAt 72 = .ok (.goto (-62), 3) := by decide +kernel
theorem dX1_characterAt_75 : decode cX1_characterAt 75 = .ok (.iconst (-1), 1) := by decide +kernel
theorem dX1_characterAt_76 : decode cX1_characterAt 76 = .ok (.ireturn, 1) := by decide +kernel
theorem dX1_letterOf_0 : decode cX1_letterOf 0 = .ok (.iload_n 1, 1) := by decide +kernel
theorem dX1_letterOf_1 : decode cX1_letterOf 1 = .ok (.lookupswitch 68 #[(36, 35), (67, 40), (68, 54)], 35) := by decide +kernel
theorem dX1_letterOf_36 : decode cX1_letterOf 36 = .ok (.aload_n 0, 1) := by decide +kernel
theorem dX1_letterOf_37 : decode cX1_letterOf 37 = .ok (.getfield 49, 3) := by decide +kernel
theorem dX1_letterOf_40 : decode cX1_letterOf 40 = .ok (.ireturn, 1) := by decide +kernel
theorem dX1_letterOf_41 : decode cX1_letterOf 41 = .ok (.iload_n 2, 1) := by decide +kernel
theorem dX1_letterOf_42 : decode cX1_letterOf 42 = .ok (.iconst 2, 1) := by decide +kernel
theorem dX1_letterOf_43 : decode cX1_letterOf 43 = .ok (.irem, 1) := by decide +kernel
theorem dX1_letterOf_44 : decode cX1_letterOf 44 = .ok (.ifCond .ne 8, 3) := by decide +kernel
theorem dX1_letterOf_47 : decode cX1_letterOf 47 = .ok (.bipush 67, 2) := by decide +kernel
theorem dX1_letterOf_49 : decode cX1_letterOf 49 = .ok (.goto 5, 3) := by decide +kernel
theorem dX1_letterOf_52 : decode cX1_letterOf 52 = .ok (.bipush 82, 2) := by decide +kernel
theorem dX1_letterOf_54 : decode cX1_letterOf 54 = .ok (.ireturn, 1) := by decide +kernel
theorem dX1_letterOf_55 : decode cX1_letterOf 55 = .ok (.iload_n 2, 1) := by decide +kernel
theorem dX1_letterOf_56 : decode cX1_letterOf 56 = .ok (.iconst 2, 1) := by decide +kernel
theorem dX1_letterOf_57 : decode cX1_letterOf 57 = .ok (.irem, 1) := by decide +kernel
theorem dX1_letterOf_58 : decode cX1_letterOf 58 = .ok (.ifCond .ne 8, 3) := by decide +kernel
theorem dX1_letterOf_61 : decode cX1_letterOf 61 = .ok (.bipush 68, 2) := by decide +kernel
theorem dX1_letterOf_63 : decode cX1_letterOf 63 = .ok (.goto 5, 3) := by decide +kernel
theorem dX1_letterOf_66 : decode cX1_letterOf 66 = .ok (.bipush 66, 2) := by decide +kernel
theorem dX1_letterOf_68 : decode cX1_letterOf 68 = .ok (.ireturn, 1) := by decide +kernel
theorem dX1_letterOf_69 : decode cX1_letterOf 69 = .ok (.iload_n 1, 1) := by decide +kernel
theorem dX1_letterOf_70 : decode cX1_letterOf 70 = .ok (.ireturn, 1) := by decide +kernel
set_option maxRecDepth 20000 in
theorem ggX1_insertionsOf_X1_countOf : GoodIn wsX1_insertionsOf wsX1_countOf := goodIn_r _ [5, 6, 7, 13, 14, 15, 16, 17, 18, 19, 20, 21, 22] (by decide +kernel) (by decide +kernel)
set_option maxRecDepth 20000 in
theorem gX1_insertionsOf_X1_countOf : GoodIn wsX1_insertionsOf (wsV RX1 104 RX1 yX1_countOf wsX1_countOf) := goodIn_app (goodIn_of _ (by decide +kernel)) ggX1_insertionsOf_X1_countOf
set_option maxRecDepth 20000 in
theorem ggX1_insertionsOf_X1_countOfKind : GoodIn wsX1_insertionsOf wsX1_countOfKind := goodIn_r _ [11, 12, 7, 13, 14, 15, 16, 17, 18, 19, 20, 21, 22] (by decide +kernel) (by decide +kernel)
set_option maxRecDepth 20000 in
theorem gX1_insertionsOf_X1_countOfKind : GoodIn wsX1_insertionsOf (wsV RX1 105 RX1 yX1_countOfKind wsX1_countOfKind) := goodIn_app (goodIn_of _ (by decide +kernel)) ggX1_insertionsOf_X1_countOfKind
theorem dX1_insertionsOf_0 : decode cX1_insertionsOf 0 = .ok (.iload_n 1, 1) := by decide +kernel
theorem dX1_insertionsOf_1 : decode cX1_insertionsOf 1 = .ok (.tableswitch 96 0 6 #[43, 50, 57, 64, 71, 78, 90], 43) := by decide +kernel
theorem dX1_insertionsOf_44 : decode cX1_insertionsOf 44 = .ok (.aload_n 0, 1) := by decide +kernel
theorem dX1_insertionsOf_45 : decode cX1_insertionsOf 45 = .ok (.bipush 66, 2) := by decide +kernel
theorem dX1_insertionsOf_47 : decode cX1_insertionsOf 47 = .ok (.invokevirtual 104, 3) := by decide +kernel
theorem dX1_insertionsOf_50 : decode cX1_insertionsOf 50 = .ok (.ireturn, 1) := by decide +kernel
theorem dX1_insertionsOf_51 : decode cX1_insertionsOf 51 = .ok (.aload_n 0, 1) := by decide +kernel
theorem dX1_insertionsOf_52 : decode cX1_insertionsOf 52 = .ok (.bipush 48, 2) := by decide +kernel
theorem dX1_insertionsOf_54 : decode cX1_insertionsOf 54 = .ok (.invokevirtual 104, 3) := by decide +kernel
theorem dX1_insertionsOf_57 : decode cX1_insertionsOf 57 = .ok (.ireturn, 1) := by decide +kernel
theorem dX1_insertionsOf_58 : decode cX1_insertionsOf 58 = .ok (.aload_n 0, 1) := by decide +kernel
theorem dX1_insertionsOf_59 : decode cX1_insertionsOf 59 = .ok (.bipush 47, 2) := by decide +kernel
theorem dX1_insertionsOf_61 : decode cX1_insertionsOf 61 = .ok (.invokevirtual 104, 3) := by decide +kernel
theorem dX1_insertionsOf_64 : decode cX1_insertionsOf 64 = .ok (.ireturn, 1) := by decide +kernel
theorem dX1_insertionsOf_65 : decode cX1_insertionsOf 65 = .ok (.aload_n 0, 1) := by decide +kernel
theorem dX1_insertionsOf_66 : decode cX1_insertionsOf 66 = .ok (.bipush 44, 2) := by decide +kernel
theorem dX1_insertionsOf_68 : decode cX1_insertionsOf 68 = .ok (.invokevirtual 104, 3) := by decide +kernel
theorem dX1_insertionsOf_71 : decode cX1_insertionsOf 71 = .ok (.ireturn, 1) := by decide +kernel
theorem dX1_insertionsOf_72 : decode cX1_insertionsOf 72 = .ok (.aload_n 0, 1) := by decide +kernel
theorem dX1_insertionsOf_73 : decode cX1_insertionsOf 73 = .ok (.bipush 46, 2) := by decide +kernel
theorem dX1_insertionsOf_75 : decode cX1_insertionsOf 75 = .ok (.invokevirtual 104, 3) := by decide +kernel
theorem dX1_insertionsOf_78 : decode cX1_insertionsOf 78 = .ok (.ireturn, 1) := by decide +kernel
theorem dX1_insertionsOf_79 : decode cX1_insertionsOf 79 = .ok (.aload_n 0, 1) := by decide +kernel
theorem dX1_insertionsOf_80 : decode cX1_insertionsOf 80 = .ok (.iconst 3, 1) := by decide +kernel
theorem dX1_insertionsOf_81 : decode cX1_insertionsOf 81 = .ok (.invokevirtual 105, 3) := by decide +kernel
theorem dX1_insertionsOf_84 : decode cX1_insertionsOf 84 = .ok (.aload_n 0, 1) := by decide +kernel
theorem dX1_insertionsOf_85 : decode cX1_insertionsOf 85 = .ok (.iconst 4, 1) := by decide +kernel
theorem dX1_insertionsOf_86 : decode cX1_insertionsOf 86 = .ok (.invokevirtual 105, 3) := by decide +kernel
theorem dX1_insertionsOf_89 : decode cX1_insertionsOf 89 = .ok (.iadd, 1) := by decide +kernel
theorem dX1_insertionsOf_90 : decode cX1_insertionsOf 90 = .ok (.ireturn, 1) := by decide +kernel
theorem dX1_insertionsOf_91 : decode cX1_insertionsOf 91 = .ok (.aload_n 0, 1) := by decide +kernel
theorem dX1_insertionsOf_92 : decode cX1_insertionsOf 92 = .ok (.iconst 5, 1) := by decide +kernel
theorem dX1_insertionsOf_93 : decode cX1_insertionsOf 93 = .ok (.invokevirtual 105, 3) := by decide +kernel
theorem dX1_insertionsOf_96 : decode cX1_insertionsOf 96 = .ok (.ireturn, 1) := by decide +kernel
theorem dX1_insertionsOf_97 : decode cX1_insertionsOf 97 = .ok (.iconst (-1), 1) := by decide +kernel
theorem dX1_insertionsOf_98 : decode cX1_insertionsOf 98 = .ok (.ireturn, 1) := by decide +kernel
theorem dX1_countOf_0 : decode cX1_countOf 0 = .ok (.iconst 0, 1) := by decide +kernel
theorem dX1_countOf_1 : decode cX1_countOf 1 = .ok (.istore_n 2, 1) := by decide +kernel
theorem dX1_countOf_2 : decode cX1_countOf 2 = .ok (.iconst 0, 1) := by decide +kernel
theorem dX1_countOf_3 : decode cX1_countOf 3 = .ok (.istore_n 3, 1) := by decide +kernel
theorem dX1_countOf_4 : decode cX1_countOf 4 = .ok (.iload_n 3, 1) := by decide +kernel
theorem dX1_countOf_5 : decode cX1_countOf 5 = .ok (.aload_n 0, 1) := by decide +kernel
theorem dX1_countOf_6 : decode cX1_countOf 6 = .ok (.getfield 38, 3) := by decide +kernel
theorem dX1_countOf_9 : decode cX1_countOf 9 = .ok (.arraylength, 1) := by decide +kernel
theorem dX1_countOf_10 : decode cX1_countOf 10 = .ok (.if_icmp .ge 41, 3) := by decide +kernel
theorem dX1_countOf_13 : decode cX1_countOf 13 = .ok (.iload_n 3, 1) := by decide +kernel
theorem dX1_countOf_14 : decode cX1_countOf 14 = .ok (.aload_n 0, 1) := by decide +kernel
theorem dX1_countOf_15 : decode cX1_countOf 15 = .ok (.getfield 44, 3) := by decide +kernel
theorem dX1_countOf_18 : decode cX1_countOf 18 = .ok (.arraylength, 1) := by decide +kernel
theorem dX1_countOf_19 : decode cX1_countOf 19 = .ok (.if_icmp .ge 32, 3) := by decide +kernel
theorem dX1_countOf_22 : decode cX1_countOf 22 = .ok (.iload_n 2, 1) := by decide +kernel
theorem dX1_countOf_23 : decode cX1_countOf 23 = .ok (.aload_n 0, 1) := by decide +kernel
theorem dX1_countOf_24 : decode cX1_countOf 24 = .ok (.getfield 38, 3) := by decide +kernel
theorem dX1_countOf_27 : decode cX1_countOf 27 = .ok (.iload_n 3, 1) := by decide +kernel
theorem dX1_countOf_28 : decode cX1_countOf 28 = .ok (.iaload, 1) := by decide +kernel
theorem dX1_countOf_29 : decode cX1_countOf 29 = .ok (.iload_n 1, 1) := by decide +kernel
theorem dX1_countOf_30 : decode cX1_countOf 30 = .ok (.if_icmp .ne 12, 3) := by decide +kernel
theorem dX1_countOf_33 : decode cX1_countOf 33 = .ok (.aload_n 0, 1) := by decide +kernel
theorem dX1_countOf_34 : decode cX1_countOf 34 = .ok (.getfield 44, 3) := by decide +kernel
theorem dX1_countOf_37 : decode cX1_countOf 37 = .ok (.iload_n 3, 1) := by decide +kernel
theorem dX1_countOf_38 : decode cX1_countOf 38 = .ok (.iaload, 1) := by decide +kernel
theorem dX1_countOf_39 : decode cX1_countOf 39 = .ok (.goto 4, 3) := by decide +kernel
theorem dX1_countOf_42 : decode cX1_countOf 42 = .ok (.iconst 0, 1) := by decide +kernel
theorem dX1_countOf_43 : decode cX1_countOf 43 = .ok (.iadd, 1) := by decide +kernel
theorem dX1_countOf_44 : decode cX1_countOf 44 = .ok (.istore_n 2, 1) := by decide +kernel
theorem dX1_countOf_45 : decode cX1_countOf 45 = .ok (.iinc 3 1, 3) := by decide +kernel
theorem dX1_countOf_48 : decode cX1_countOf 48 = .ok (.goto (-44), 3) := by decide +kernel
theorem dX1_countOf_51 : decode cX1_countOf 51 = .ok (.iload_n 2, 1) := by decide +kernel
theorem dX1_countOf_52 : decode cX1_countOf 52 = .ok (.ireturn, 1) := by decide +kernel
theorem dX1_countOfKind_0 : decode cX1_countOfKind 0 = .ok (.iconst 0, 1) := by decide +kernel
theorem dX1_countOfKind_1 : decode cX1_countOfKind 1 = .ok (.istore_n 2, 1) := by decide +kernel
theorem dX1_countOfKind_2 : decode cX1_countOfKind 2 = .ok (.iconst 0, 1) := by decide +kernel
theorem dX1_countOfKind_3 : decode cX1_countOfKind 3 = .ok (.istore_n 3, 1) := by decide +kernel
theorem dX1_countOfKind_4 : decode cX1_countOfKind 4 = .ok (.iload_n 3, 1) := by decide +kernel
theorem dX1_countOfKind_5 : decode cX1_countOfKind 5 = .ok (.aload_n 0, 1) := by decide +kernel
theorem dX1_countOfKind_6 : decode cX1_countOfKind 6 = .ok (.getfield 48, 3) := by decide +kernel
theorem dX1_countOfKind_9 : decode cX1_countOfKind 9 = .ok (.arraylength, 1) := by decide +kernel
theorem dX1_countOfKind_10 : decode cX1_countOfKind 10 = .ok (.if_icmp .ge 41, 3) := by decide +kernel
theorem dX1_countOfKind_13 : decode cX1_countOfKind 13 = .ok (.iload_n 3, 1) := by decide +kernel
theorem dX1_countOfKind_14 : decode cX1_countOfKind 14 = .ok (.aload_n 0, 1) := by decide +kernel
theorem dX1_countOfKind_15 : decode cX1_countOfKind 15 = .ok (.getfield 44, 3) := by decide +kernel
theorem dX1_countOfKind_18 : decode cX1_countOfKind 18 = .ok (.arraylength, 1) := by decide +kernel
theorem dX1_countOfKind_19 : decode cX1_countOfKind 19 = .ok (.if_icmp .ge 32, 3) := by decide +kernel
theorem dX1_countOfKind_22 : decode cX1_countOfKind 22 = .ok (.iload_n 2, 1) := by decide +kernel
theorem dX1_countOfKind_23 : decode cX1_countOfKind 23 = .ok (.aload_n 0, 1) := by decide +kernel
theorem dX1_countOfKind_24 : decode cX1_countOfKind 24 = .ok (.getfield 48, 3) := by decide +kernel
theorem dX1_countOfKind_27 : decode cX1_countOfKind 27 = .ok (.iload_n 3, 1) := by decide +kernel
theorem dX1_countOfKind_28 : decode cX1_countOfKind 28 = .ok (.iaload, 1) := by decide +kernel
theorem dX1_countOfKind_29 : decode cX1_countOfKind 29 = .ok (.iload_n 1, 1) := by decide +kernel
theorem dX1_countOfKind_30 : decode cX1_countOfKind 30 = .ok (.if_icmp .ne 12, 3) := by decide +kernel
theorem dX1_countOfKind_33 : decode cX1_countOfKind 33 = .ok (.aload_n 0, 1) := by decide +kernel
theorem dX1_countOfKind_34 : decode cX1_countOfKind 34 = .ok (.getfield 44, 3) := by decide +kernel
theorem dX1_countOfKind_37 : decode cX1_countOfKind 37 = .ok (.iload_n 3, 1) := by decide +kernel
theorem dX1_countOfKind_38 : decode cX1_countOfKind 38 = .ok (.iaload, 1) := by decide +kernel
theorem dX1_countOfKind_39 : decode cX1_countOfKind 39 = .ok (.goto 4, 3) := by decide +kernel
theorem dX1_countOfKind_42 : decode cX1_countOfKind 42 = .ok (.iconst 0, 1) := by decide +kernel
theorem dX1_countOfKind_43 : decode cX1_countOfKind 43 = .ok (.iadd, 1) := by decide +kernel
theorem dX1_countOfKind_44 : decode cX1_countOfKind 44 = .ok (.istore_n 2, 1) := by decide +kernel
theorem dX1_countOfKind_45 : decode cX1_countOfKind 45 = .ok (.iinc 3 1, 3) := by decide +kernel
theorem dX1_countOfKind_48 : decode cX1_countOfKind 48 = .ok (.goto (-44), 3) := by decide +kernel
theorem dX1_countOfKind_51 : decode cX1_countOfKind 51 = .ok (.iload_n 2, 1) := by decide +kernel
theorem dX1_countOfKind_52 : decode cX1_countOfKind 52 = .ok (.ireturn, 1) := by decide +kernel
end
section
theorem dX2_init_0 : decode cX2_init 0 = .ok (.aload_n 0, 1) := by decide +kernel
theorem dX2_init_1 : decode cX2_init 1 = .ok (.invokespecial 3, 3) := by decide +kernel
theorem dX2_init_4 : decode cX2_init 4 = .ok (.aload_n 0, 1) := by decide +kernel
theorem dX2_init_5 : decode cX2_init 5 = .ok (.bipush 80, 2) := by decide +kernel
theorem dX2_init_7 : decode cX2_init 7 = .ok (.newarray .int, 2) := by decide +kernel
theorem dX2_init_9 : decode cX2_init 9 = .ok (.putfield 9, 3) := by decide +kernel
theorem dX2_init_12 : decode cX2_init 12 = .ok (.aload_n 0, 1) := by decide +kernel
theorem dX2_init_13 : decode cX2_init 13 = .ok (.bipush 80, 2) := by decide +kernel
theorem dX2_init_15 : decode cX2_init 15 = .ok (.newarray .int, 2) := by decide +kernel
theorem dX2_init_17 : decode cX2_init 17 = .ok (.putfield 15, 3) := by decide +kernel
theorem dX2_init_20 : decode cX2_init 20 = .ok (.aload_n 0, 1) := by decide +kernel
theorem dX2_init_21 : decode cX2_init 21 = .ok (.bipush 80, 2) := by decide +kernel
theorem dX2_init_23 : decode cX2_init 23 = .ok (.newarray .int, 2) := by decide +kernel
theorem dX2_init_25 : decode cX2_init 25 = .ok (.putfield 18, 3) := by decide +kernel
theorem dX2_init_28 : decode cX2_init 28 = .ok (.aload_n 0, 1) := by decide +kernel
theorem dX2_init_29 : decode cX2_init 29 = .ok (.bipush 80, 2) := by decide +kernel
theorem dX2_init_31 : decode cX2_init 31 = .ok (.newarray .int, 2) := by decide +kernel
theorem dX2_init_33 : decode cX2_init 33 = .ok (.putfield 21, 3) := by decide +kernel
theorem dX2_init_36 : decode cX2_init 36 = .ok (.aload_n 0, 1) := by decide +kernel
theorem dX2_init_37 : decode cX2_init 37 = .ok (.bipush 80, 2) := by decide +kernel
theorem dX2_init_39 : decode cX2_init 39 = .ok (.newarray .int, 2) := by decide +kernel
theorem dX2_init_41 : decode cX2_init 41 = .ok (.putfield 24, 3) := by decide +kernel
theorem dX2_init_44 : decode cX2_init 44 = .ok (.aload_n 0, 1) := by decide +kernel
theorem dX2_init_45 : decode cX2_init 45 = .ok (.iconst 0, 1) := by decide +kernel
theorem dX2_init_46 : decode cX2_init 46 = .ok (.putfield 27, 3) := by decide +kernel
theorem dX2_init_49 : decode cX2_init 49 = .ok (.return_, 1) := by decide +kernel
set_option maxRecDepth 20000 in
theorem ggX2_take_X3_signAt : GoodIn wsX2_take wsX3_signAt := goodIn_r _ [6, 7, 8, 9, 5, 10, 11, 12, 13, 14, 15, 16, 17, 18, 19, 20, 21, 22, 23, 24, 25, 26, 27, 28, 29, 30, 31, 32, 33, 34, 35, 36, 37, 38, 39, 40, 41, 42, 43, 44, 45, 46, 47, 48, 49, 50, 51, 52, 53, 54, 55, 56, 57, 58, 59, 60, 61, 62, 63, 64, 65, 66, 67, 68, 69, 70, 71, 72, 73, 74, 75, 76, 77, 78, 79, 80, 81, 82, 83, 84, 85, 86, 87, 88, 89, 90, 91, 92, 93, 94, 95, 96, 97, 98, 99, 100, 101, 102, 103, 104, 130, 131] (by decide +kernel) (by decide +kernel)
set_option maxRecDepth 20000 in
theorem gX2_take_X3_signAt : GoodIn wsX2_take (wsV RX2 36 RX3 yX3_signAt wsX3_signAt) := goodIn_app (goodIn_of _ (by decide +kernel)) ggX2_take_X3_signAt
set_option maxRecDepth 20000 in
theorem ggX2_take_X4_widthOf : GoodIn wsX2_take wsX4_widthOf := goodIn_r _ [106] (by decide +kernel) (by decide +kernel)
set_option maxRecDepth 20000 in
theorem gX2_take_X4_widthOf_n40 : GoodIn wsX2_take (wsX4_widthOf) := ggX2_take_X4_widthOf
set_option maxRecDepth 20000 in
theorem ggX2_take_X3_characterAt : GoodIn wsX2_take wsX3_characterAt := goodIn_r _ [10, 11, 12, 130, 131] (by decide +kernel) (by decide +kernel)
set_option maxRecDepth 20000 in
theorem gX2_take_X3_characterAt : GoodIn wsX2_take (wsV RX2 44 RX3 yX3_characterAt wsX3_characterAt) := goodIn_app (goodIn_of _ (by decide +kernel)) ggX2_take_X3_characterAt
set_option maxRecDepth 20000 in
theorem ggX2_take_X3_closeOf : GoodIn wsX2_take wsX3_closeOf := goodIn_r _ [111, 7, 8, 9, 5, 10, 11, 12, 130, 131] (by decide +kernel) (by decide +kernel)
set_option maxRecDepth 20000 in
theorem gX2_take_X3_closeOf : GoodIn wsX2_take (wsV RX2 47 RX3 yX3_closeOf wsX3_closeOf) := goodIn_app (goodIn_of _ (by decide +kernel)) ggX2_take_X3_closeOf
set_option maxRecDepth 20000 in
theorem ggX2_take_X3_numberBetween : GoodIn wsX2_take wsX3_numberBetween := goodIn_r _ [115, 7, 8, 9, 5, 10, 11, 12, 130, 131] (by decide +kernel) (by decide +kernel)
set_option maxRecDepth 20000 in
theorem gX2_take_X3_numberBetween : GoodIn wsX2_take (wsV RX2 50 RX3 yX3_numberBetween wsX3_numberBetween) := goodIn_app (goodIn_of _ (by decide +kernel)) ggX2_take_X3_numberBetween
set_option maxRecDepth 20000 in
theorem ggX2_take_X2_add : GoodIn wsX2_take wsX2_add := goodIn_r _ [120, 1, 121, 122, 123, 124, 125, 126, 127, 128, 129] (by decide +kernel) (by decide +kernel)
set_option maxRecDepth 20000 in
theorem gX2_take_X2_add : GoodIn wsX2_take (wsV RX2 53 RX2 yX2_add wsX2_add) := goodIn_app (goodIn_of _ (by decide +kernel)) ggX2_take_X2_add
theorem dX2_take_0 : decode cX2_take 0 = .ok (.aload_n 0, 1) := by decide +kernel
theorem dX2_take_1 : decode cX2_take 1 = .ok (.iconst 0, 1) := by decide +kernel
theorem dX2_take_2 : decode cX2_take 2 = .ok (.putfield 27, 3) := by decide +kernel
theorem dX2_take_5 : decode cX2_take 5 = .ok (.iconst 0, 1) := by decide +kernel
theorem dX2_take_6 : decode cX2_take 6 = .ok (.istore_n 3, 1) := by decide +kernel
theorem dX2_take_7 : decode cX2_take 7 = .ok (.iconst 0, 1) := by decide +kernel
theorem dX2_take_8 : decode cX2_take 8 = .ok (.istore 4, 2) := by decide +kernel
theorem dX2_take_10 : decode cX2_take 10 = .ok (.iload 4, 2) := by decide +kernel
theorem dX2_take_12 : decode cX2_take 12 = .ok (.bipush 80, 2) := by decide +kernel
theorem dX2_take_14 : decode cX2_take 14 = .ok (.if_icmp .ge 101, 3) := by decide +kernel
theorem dX2_take_17 : decode cX2_take 17 = .ok (.iload_n 3, 1) := by decide +kernel
theorem dX2_take_18 : decode cX2_take 18 = .ok (.aload_n 1, 1) := by decide +kernel
theorem dX2_take_19 : decode cX2_take 19 = .ok (.getfield 31, 3) := by decide +kernel
theorem dX2_take_22 : decode cX2_take 22 = .ok (.if_icmp .ge 93, 3) := by decide +kernel
theorem dX2_take_25 : decode cX2_take 25 = .ok (.aload_n 1, 1) := by decide +kernel
theorem dX2_take_26 : decode cX2_take 26 = .ok (.iload_n 3, 1) := by decide +kernel
theorem dX2_take_27 : decode cX2_take 27 = .ok (.iload_n 2, 1) := by decide +kernel
theorem dX2_take_28 : decode cX2_take 28 = .ok (.invokevirtual 36, 3) := by decide +kernel
theorem dX2_take_31 : decode cX2_take 31 = .ok (.istore 5, 2) := by decide +kernel
theorem dX2_take_33 : decode cX2_take 33 = .ok (.iload 5, 2) := by decide +kernel
theorem dX2_take_35 : decode cX2_take 35 = .ok (.iconst (-1), 1) := by decide +kernel
theorem dX2_take_36 : decode cX2_take 36 = .ok (.if_icmp .ne 5, 3) := by decide +kernel
theorem dX2_take_39 : decode cX2_take 39 = .ok (.iload_n 3, 1) := by decide +kernel
theorem dX2_take_40 : decode cX2_take 40 = .ok (.ireturn, 1) := by decide +kernel
theorem dX2_take_41 : decode cX2_take 41 = .ok (.iload_n 3, 1) := by decide +kernel
theorem dX2_take_42 : decode cX2_take 42 = .ok (.iload 5, 2) := by decide +kernel
theorem dX2_take_44 : decode cX2_take 44 = .ok (.invokestatic 40, 3) := by decide +kernel
theorem dX2_take_47 : decode cX2_take 47 = .ok (.iadd, 1) := by decide +kernel
theorem dX2_take_48 : decode cX2_take 48 = .ok (.istore 6, 2) := by decide +kernel
theorem dX2_take_50 : decode cX2_take 50 = .ok (.iconst 1, 1) := by decide +kernel
theorem dX2_take_51 : decode cX2_take 51 = .ok (.istore 7, 2) := by decide +kernel
theorem dX2_take_53 : decode cX2_take 53 = .ok (.aload_n 1, 1) := by decide +kernel
theorem dX2_take_54 : decode cX2_take 54 = .ok (.iload 6, 2) := by decide +kernel
theorem dX2_take_56 : decode cX2_take 56 = .ok (.invokevirtual 44, 3) := by decide +kernel
theorem dX2_take_59 : decode cX2_take 59 = .ok (.bipush 40, 2) := by decide +kernel
theorem dX2_take_61 : decode cX2_take 61 = .ok (.if_icmp .ne 36, 3) := by decide +kernel
theorem dX2_take_64 : decode cX2_take 64 = .ok (.aload_n 1, 1) := by decide +kernel
theorem dX2_take_65 : decode cX2_take 65 = .ok (.iload 6, 2) := by decide +kernel
theorem dX2_take_67 : decode cX2_take 67 = .ok (.invokevirtual 47, 3) := by decide +kernel
theorem dX2_take_70 : decode cX2_take 70 = .ok (.istore 8, 2) := by decide +kernel
theorem dX2_take_72 : decode cX2_take 72 = .ok (.aload_n 1, 1) := by decide +kernel
theorem dX2_take_73 : decode cX2_take 73 = .ok (.iload 6, 2) := by decide +kernel
theorem dX2_take_75 : decode cX2_take 75 = .ok (.iload 8, 2) := by decide +kernel
theorem dX2_take_77 : decode cX2_take 77 = .ok (.invokevirtual 50, 3) := by decide +kernel
theorem dX2_take_80 : decode cX2_take 80 = .ok (.istore 7, 2) := by decide +kernel
theorem dX2_take_82 : decode cX2_take 82 = .ok (.iload 7, 2) := by decide +kernel
theorem dX2_take_84 : decode cX2_take 84 = .ok (.iconst 1, 1) := by decide +kernel
theorem dX2_take_85 : decode cX2_take 85 = .ok (.if_icmp .ge 6, 3) := by decide +kernel
theorem dX2_take_88 : decode cX2_take 88 = .ok (.iload 6, 2) := by decide +kernel
theorem dX2_take_90 : decode cX2_take 90 = .ok (.ireturn, 1) := by decide +kernel
theorem dX2_take_91 : decode cX2_take 91 = .ok (.iload 8, 2) := by decide +kernel
theorem dX2_take_93 : decode cX2_take 93 = .ok (.iconst 1, 1) := by decide +kernel
theorem dX2_take_94 : decode cX2_take 94 = .ok (.iadd, 1) := by decide +kernel
theorem dX2_take_95 : decode cX2_take 95 = .ok (.istore 6, 2) := by decide +kernel
theorem dX2_take_97 : decode cX2_take 97 = .ok (.aload_n 0, 1) := by decide +kernel
theorem dX2_take_98 : decode cX2_take 98 = .ok (.iload 5, 2) := by decide +kernel
theorem dX2_take_100 : decode cX2_take 100 = .ok (.iload 7, 2) := by decide +kernel
theorem dX2_take_102 : decode cX2_take 102 = .ok (.iload_n 3, 1) := by decide +kernel
theorem dX2_take_103 : decode cX2_take 103 = .ok (.invokevirtual 53, 3) := by decide +kernel
theorem dX2_take_106 : decode cX2_take 106 = .ok (.iload 6, 2) := by decide +kernel
theorem dX2_take_108 : decode cX2_take 108 = .ok (.istore_n 3, 1) := by decide +kernel
theorem dX2_take_109 : decode cX2_take 109 = .ok (.iinc 4 1, 3) := by decide +kernel
theorem dX2_take_112 : decode cX2_take 112 = .ok (.goto (-102), 3) := by decide +kernel
theorem dX2_take_115 : decode cX2_take 115 = .ok (.iconst (-1), 1) := by decide +kernel
theorem dX2_take_116 : decode cX2_take 116 = .ok (.ireturn, 1) := by decide +kernel
theorem dX2_add_0 : decode cX2_add 0 = .ok (.aload_n 0, 1) := by decide +kernel
theorem dX2_add_1 : decode cX2_add 1 = .ok (.getfield 27, 3) := by decide +kernel
theorem dX2_add_4 : decode cX2_add 4 = .ok (.ifCond .lt 12, 3) := by decide +kernel
theorem dX2_add_7 : decode cX2_add 7 = .ok (.aload_n 0, 1) := by decide +kernel
theorem dX2_add_8 : decode cX2_add 8 = .ok (.getfield 27, 3) := by decide +kernel
theorem dX2_add_11 : decode cX2_add 11 = .ok (.bipush 80, 2) := by decide +kernel
theorem dX2_add_13 : decode cX2_add 13 = .ok (.if_icmp .lt 4, 3) := by decide +kernel
theorem dX2_add_16 : decode cX2_add 16 = .ok (.return_, 1) := by decide +kernel
theorem dX2_add_17 : decode cX2_add 17 = .ok (.aload_n 0, 1) := by decide +kernel
theorem dX2_add_18 : decode cX2_add 18 = .ok (.getfield 9, 3) := by decide +kernel
theorem dX2_add_21 : decode cX2_add 21 = .ok (.aload_n 0, 1) := by decide +kernel
theorem dX2_add_22 : decode cX2_add 22 = .ok (.getfield 27, 3) := by decide +kernel
theorem dX2_add_25 : decode cX2_add 25 = .ok (.iload_n 1, 1) := by decide +kernel
theorem dX2_add_26 : decode cX2_add 26 = .ok (.iastore, 1) := by decide +kernel
theorem dX2_add_27 : decode cX2_add 27 = .ok (.aload_n 0, 1) := by decide +kernel
theorem dX2_add_28 : decode cX2_add 28 = .ok (.getfield 15, 3) := by decide +kernel
theorem dX2_add_31 : decode cX2_add 31 = .ok (.aload_n 0, 1) := by decide +kernel
theorem dX2_add_32 : decode cX2_add 32 = .ok (.getfield 27, 3) := by decide +kernel
theorem dX2_add_35 : decode cX2_add 35 = .ok (.iload_n 2, 1) := by decide +kernel
theorem dX2_add_36 : decode cX2_add 36 = .ok (.iastore, 1) := by decide +kernel
theorem dX2_add_37 : decode cX2_add 37 = .ok (.aload_n 0, 1) := by decide +kernel
theorem dX2_add_38 : decode cX2_add 38 = .ok (.getfield 18, 3) := by decide +kernel
theorem dX2_add_41 : decode cX2_add 41 = .ok (.aload_n 0, 1) := by decide +kernel
theorem dX2_add_42 : decode cX2_add 42 = .ok (.getfield 27, 3) := by decide +kernel
theorem dX2_add_45 : decode cX2_add 45 = .ok (.iload_n 3, 1) := by decide +kernel
theorem dX2_add_46 : decode cX2_add 46 = .ok (.iastore, 1) := by decide +kernel
theorem dX2_add_47 : decode cX2_add 47 = .ok (.aload_n 0, 1) := by decide +kernel
theorem dX2_add_48 : decode cX2_add 48 = .ok (.dup, 1) := by decide +kernel
theorem dX2_add_49 : decode cX2_add 49 = .ok (.getfield 27, 3) := by decide +kernel
theorem dX2_add_52 : decode cX2_add 52 = .ok (.iconst 1, 1) := by decide +kernel
theorem dX2_add_53 : decode cX2_add 53 = .ok (.iadd, 1) := by decide +kernel
theorem dX2_add_54 : decode cX2_add 54 = .ok (.putfield 27, 3) := by decide +kernel
theorem dX2_add_57 : decode cX2_add 57 = .ok (.return_, 1) := by decide +kernel
set_option maxRecDepth 20000 in
theorem ggX2_findKinds_X2_countOf : GoodIn wsX2_findKinds wsX2_countOf := goodIn_r _ [8, 1, 2, 9, 15, 16, 17, 18, 19, 20] (by decide +kernel) (by decide +kernel)
set_option maxRecDepth 20000 in
theorem gX2_findKinds_X2_countOf : GoodIn wsX2_findKinds (wsV RX2 57 RX2 yX2_countOf wsX2_countOf) := goodIn_app (goodIn_of _ (by decide +kernel)) ggX2_findKinds_X2_countOf
set_option maxRecDepth 20000 in
theorem ggX2_findKinds_X2_kindOf : GoodIn wsX2_findKinds wsX2_kindOf := goodIn_r _ [12, 13, 14] (by decide +kernel) (by decide +kernel)
set_option maxRecDepth 20000 in
theorem gX2_findKinds_X2_kindOf : GoodIn wsX2_findKinds (va_wsS RX2 60 yX2_kindOf wsX2_kindOf) := goodIn_app (goodIn_of _ (by decide +kernel)) ggX2_findKinds_X2_kindOf
theorem dX2_findKinds_0 : decode cX2_findKinds 0 = .ok (.aload_n 0, 1) := by decide +kernel
theorem dX2_findKinds_1 : decode cX2_findKinds 1 = .ok (.bipush 43, 2) := by decide +kernel
theorem dX2_findKinds_3 : decode cX2_findKinds 3 = .ok (.invokevirtual 57, 3) := by decide +kernel
theorem dX2_findKinds_6 : decode cX2_findKinds 6 = .ok (.iconst 1, 1) := by decide +kernel
theorem dX2_findKinds_7 : decode cX2_findKinds 7 = .ok (.if_icmp .ne 7, 3) := by decide +kernel
theorem dX2_findKinds_10 : decode cX2_findKinds 10 = .ok (.iconst 1, 1) := by decide +kernel
theorem dX2_findKinds_11 : decode cX2_findKinds 11 = .ok (.goto 4, 3) := by decide +kernel
theorem dX2_findKinds_14 : decode cX2_findKinds 14 = .ok (.iconst 0, 1) := by decide +kernel
theorem dX2_findKinds_15 : decode cX2_findKinds 15 = .ok (.istore_n 1, 1) := by decide +kernel
theorem dX2_findKinds_16 : decode cX2_findKinds 16 = .ok (.aload_n 0, 1) := by decide +kernel
theorem dX2_findKinds_17 : decode cX2_findKinds 17 = .ok (.bipush 45, 2) := by decide +kernel
theorem dX2_findKinds_19 : decode cX2_findKinds 19 = .ok (.invokevirtual 57, 3) := by decide +kernel
theorem dX2_findKinds_22 : decode cX2_findKinds 22 = .ok (.iconst 1, 1) := by decide +kernel
theorem dX2_findKinds_23 : decode cX2_findKinds 23 = .ok (.if_icmp .ne 7, 3) := by decide +kernel
theorem dX2_findKinds_26 : decode cX2_findKinds 26 = .ok (.iconst 1, 1) := by decide +kernel
theorem dX2_findKinds_27 : decode cX2_findKinds 27 = .ok (.goto 4, 3) := by decide +kernel
theorem dX2_findKinds_30 : decode cX2_findKinds 30 = .ok (.iconst 0, 1) := by decide +kernel
theorem dX2_findKinds_31 : decode cX2_findKinds 31 = .ok (.istore_n 2, 1) := by decide +kernel
theorem dX2_findKinds_32 : decode cX2_findKinds 32 = .ok (.aload_n 0, 1) := by decide +kernel
theorem dX2_findKinds_33 : decode cX2_findKinds 33 = .ok (.bipush 36, 2) := by decide +kernel
theorem dX2_findKinds_35 : decode cX2_findKinds 35 = .ok (.invokevirtual 57, 3) := by decide +kernel
theorem dX2_findKinds_38 : decode cX2_findKinds 38 = .ok (.iconst 1, 1) := by decide +kernel
theorem dX2_findKinds_39 : decode cX2_findKinds 39 = .ok (.if_icmp .ne 7, 3) := by decide +kernel
theorem dX2_findKinds_42 : decode cX2_findKinds 42 = .ok (.iconst 1, 1) := by decide +kernel
theorem dX2_findKinds_43 : decode cX2_findKinds 43 = .ok (.goto 4, 3) := by decide +kernel
theorem dX2_findKinds_46 : decode cX2_findKinds 46 = .ok (.iconst 0, 1) := by decide +kernel
theorem dX2_findKinds_47 : decode cX2_findKinds 47 = .ok (.istore_n 3, 1) := by decide +kernel
theorem dX2_findKinds_48 : decode cX2_findKinds 48 = .ok (.iconst 0, 1) := by decide +kernel
theorem dX2_findKinds_49 : decode cX2_findKinds 49 = .ok (.istore 4, 2) := by decide +kernel
theorem dX2_findKinds_51 : decode cX2_findKinds 51 = .ok (.iconst 0, 1) := by decide +kernel
theorem dX2_findKinds_52 : decode cX2_findKinds 52 = .ok (.istore 5, 2) := by decide +kernel
theorem dX2_findKinds_54 : decode cX2_findKinds 54 = .ok (.iload 5, 2) := by decide +kernel
theorem dX2_findKinds_56 : decode cX2_findKinds 56 = .ok (.aload_n 0, 1) := by decide +kernel
theorem dX2_findKinds_57 : decode cX2_findKinds 57 = .ok (.getfield 27, 3) := by decide +kernel
theorem dX2_findKinds_60 : decode cX2_findKinds 60 = .ok (.if_icmp .ge 80, 3) := by decide +kernel
theorem dX2_findKinds_63 : decode cX2_findKinds 63 = .ok (.iload 5, 2) := by decide +kernel
theorem dX2_findKinds_65 : decode cX2_findKinds 65 = .ok (.bipush 80, 2) := by decide +kernel
theorem dX2_findKinds_67 : decode cX2_findKinds 67 = .ok (.if_icmp .ge 73, 3) := by decide +kernel
theorem dX2_findKinds_70 : decode cX2_findKinds 70 = .ok (.aload_n 0, 1) := by decide +kernel
theorem dX2_findKinds_71 : decode cX2_findKinds 71 = .ok (.getfield 9, 3) := by decide +kernel
theorem dX2_findKinds_74 : decode cX2_findKinds 74 = .ok (.iload 5, 2) := by decide +kernel
theorem dX2_findKinds_76 : decode cX2_findKinds 76 = .ok (.iaload, 1) := by decide +kernel
theorem dX2_findKinds_77 : decode cX2_findKinds 77 = .ok (.istore 6, 2) := by decide +kernel
theorem dX2_findKinds_79 : decode cX2_findKinds 79 = .ok (.iload 6, 2) := by decide +kernel
theorem dX2_findKinds_81 : decode cX2_findKinds 81 = .ok (.bipush 43, 2) := by decide +kernel
theorem dX2_findKinds_83 : decode cX2_findKinds 83 = .ok (.if_icmp .ne 7, 3) := by decide +kernel
theorem dX2_findKinds_86 : decode cX2_findKinds 86 = .ok (.iload_n 1, 1) := by decide +kernel
theorem dX2_findKinds_87 : decode cX2_findKinds 87 = .ok (.goto 15, 3) := by decide +kernel
theorem dX2_findKinds_90 : decode cX2_findKinds 90 = .ok (.iload 6, 2) := by decide +kernel
theorem dX2_findKinds_92 : decode cX2_findKinds 92 = .ok (.bipush 45, 2) := by decide +kernel
theorem dX2_findKinds_94 : decode cX2_findKinds 94 = .ok (.if_icmp .ne 7, 3) := by decide +kernel
theorem dX2_findKinds_97 : decode cX2_findKinds 97 = .ok (.iload_n 2, 1) := by decide +kernel
theorem dX2_findKinds_98 : decode cX2_findKinds 98 = .ok (.goto 4, 3) := by decide +kernel
theorem dX2_findKinds_101 : decode cX2_findKinds 101 = .ok (.iload_n 3, 1) := by decide +kernel
theorem dX2_findKinds_102 : decode cX2_findKinds 102 = .ok (.istore 7, 2) := by decide +kernel
theorem dX2_findKinds_104 : decode cX2_findKinds 104 = .ok (.aload_n 0, 1) := by decide +kernel
theorem dX2_findKinds_105 : decode cX2_findKinds 105 = .ok (.getfield 21, 3) := by decide +kernel
theorem dX2_findKinds_108 : decode cX2_findKinds 108 = .ok (.iload 5, 2) := by decide +kernel
theorem dX2_findKinds_110 : decode cX2_findKinds 110 = .ok (.iload 6, 2) := by decide +kernel
theorem dX2_findKinds_112 : decode cX2_findKinds 112 = .ok (.iload 7, 2) := by decide +kernel
theorem dX2_findKinds_114 : decode cX2_findKinds 114 = .ok (.iload 4, 2) := by decide +kernel
theorem dX2_findKinds_116 : decode cX2_findKinds 116 = .ok (.invokestatic 60, 3) := by decide +kernel
theorem dX2_findKinds_119 : decode cX2_findKinds 119 = .ok (.iastore, 1) := by decide +kernel
theorem dX2_findKinds_120 : decode cX2_findKinds 120 = .ok (.iload 4, 2) := by decide +kernel
theorem dX2_findKinds_122 : decode cX2_findKinds 122 = .ok (.iconst 1, 1) := by decide +kernel
theorem dX2_findKinds_123 : decode cX2_findKinds 123 = .ok (.aload_n 0, 1) := by decide +kernel
theorem dX2_findKinds_124 : decode cX2_findKinds 124 = .ok (.getfield 21, 3) := by decide +kernel
theorem dX2_findKinds_127 : decode cX2_findKinds 127 = .ok (.iload 5, 2) := by decide +kernel
theorem dX2_findKinds_129 : decode cX2_findKinds 129 = .ok (.iaload, 1) := by decide +kernel
theorem dX2_findKinds_130 : decode cX2_findKinds 130 = .ok (.ishl, 1) := by decide +kernel
theorem dX2_findKinds_131 : decode cX2_findKinds 131 = .ok (.ior, 1) := by decide +kernel
theorem dX2_findKinds_132 : decode cX2_findKinds 132 = .ok (.istore 4, 2) := by decide +kernel
theorem dX2_findKinds_134 : decode cX2_findKinds 134 = .ok (.iinc 5 1, 3) := by decide +kernel
theorem dX2_findKinds_137 : decode cX2_findKinds 137 = .ok (.goto (-83), 3) := by decide +kernel
theorem dX2_findKinds_140 : decode cX2_findKinds 140 = .ok (.return_, 1) := by decide +kernel
theorem dX2_countOf_0 : decode cX2_countOf 0 = .ok (.iconst 0, 1) := by decide +kernel
theorem dX2_countOf_1 : decode cX2_countOf 1 = .ok (.istore_n 2, 1) := by decide +kernel
theorem dX2_countOf_2 : decode cX2_countOf 2 = .ok (.iconst 0, 1) := by decide +kernel
theorem dX2_countOf_3 : decode cX2_countOf 3 = .ok (.istore_n 3, 1) := by decide +kernel
theorem dX2_countOf_4 : decode cX2_countOf 4 = .ok (.iload_n 3, 1) := by decide +kernel
theorem dX2_countOf_5 : decode cX2_countOf 5 = .ok (.aload_n 0, 1) := by decide +kernel
theorem dX2_countOf_6 : decode cX2_countOf 6 = .ok (.getfield 27, 3) := by decide +kernel
theorem dX2_countOf_9 : decode cX2_countOf 9 = .ok (.if_icmp .ge 34, 3) := by decide +kernel
theorem dX2_countOf_12 : decode cX2_countOf 12 = .ok (.iload_n 3, 1) := by decide +kernel
theorem dX2_countOf_13 : decode cX2_countOf 13 = .ok (.bipush 80, 2) := by decide +kernel
theorem dX2_countOf_15 : decode cX2_countOf 15 = .ok (.if_icmp .ge 28, 3) := by decide +kernel
theorem dX2_countOf_18 : decode cX2_countOf 18 = .ok (.aload_n 0, 1) := by decide +kernel
theorem dX2_countOf_19 : decode cX2_countOf 19 = .ok (.getfield 9, 3) := by decide +kernel
theorem dX2_countOf_22 : decode cX2_countOf 22 = .ok (.iload_n 3, 1) := by decide +kernel
theorem dX2_countOf_23 : decode cX2_countOf 23 = .ok (.iaload, 1) := by decide +kernel
theorem dX2_countOf_24 : decode cX2_countOf 24 = .ok (.iload_n 1, 1) := by decide +kernel
theorem dX2_countOf_25 : decode cX2_countOf 25 = .ok (.if_icmp .ne 12, 3) := by decide +kernel
theorem dX2_countOf_28 : decode cX2_countOf 28 = .ok (.iload_n 2, 1) := by decide +kernel
theorem dX2_countOf_29 : decode cX2_countOf 29 = .ok (.aload_n 0, 1) := by decide +kernel
theorem dX2_countOf_30 : decode cX2_countOf 30 = .ok (.getfield 15, 3) := by decide +kernel
theorem dX2_countOf_33 : decode cX2_countOf 33 = .ok (.iload_n 3, 1) := by decide +kernel
theorem dX2_countOf_34 : decode cX2_countOf 34 = .ok (.iaload, 1) := by decide +kernel
theorem dX2_countOf_35 : decode cX2_countOf 35 = .ok (.iadd, 1) := by decide +kernel
theorem dX2_countOf_36 : decode cX2_countOf 36 = .ok (.istore_n 2, 1) := by decide +kernel
theorem dX2_countOf_37 : decode cX2_countOf 37 = .ok (.iinc 3 1, 3) := by decide +kernel
theorem dX2_countOf_40 : decode cX2_countOf 40 = .ok (.goto (-36), 3) := by decide +kernel
theorem dX2_countOf_43 : decode cX2_countOf 43 = .ok (.iload_n 2, 1) := by decide +kernel
theorem dX2_countOf_44 : decode cX2_countOf 44 = .ok (.ireturn, 1) := by decide +kernel
theorem dX2_kindOf_0 : decode cX2_kindOf 0 = .ok (.iload_n 2, 1) := by decide +kernel
theorem dX2_kindOf_1 : decode cX2_kindOf 1 = .ok (.ldc 64, 2) := by decide +kernel
theorem dX2_kindOf_3 : decode cX2_kindOf 3 = .ok (.iand, 1) := by decide +kernel
theorem dX2_kindOf_4 : decode cX2_kindOf 4 = .ok (.ifCond .ne 7, 3) := by decide +kernel
theorem dX2_kindOf_7 : decode cX2_kindOf 7 = .ok (.iconst 0, 1) := by decide +kernel
theorem dX2_kindOf_8 : decode cX2_kindOf 8 = .ok (.goto 4, 3) := by decide +kernel
theorem dX2_kindOf_11 : decode cX2_kindOf 11 = .ok (.iconst 1, 1) := by decide +kernel
theorem dX2_kindOf_12 : decode cX2_kindOf 12 = .ok (.istore_n 3, 1) := by decide +kernel
theorem dX2_kindOf_13 : decode cX2_kindOf 13 = .ok (.iload_n 0, 1) := by decide +kernel
theorem dX2_kindOf_14 : decode cX2_kindOf 14 = .ok (.tableswitch 307 36 90 #[259, 307, 307, 307, 307, 307, 272, 238, 234, 238, 236, 307, 307, 307, 307, 307, 307, 307, 307, 307, 307, 277, 307, 307, 307, 307, 307, 307, 307, 280, 307, 257, 257, 307, 307, 307, 307, 307, 307, 307, 307, 307, 304, 307, 289, 307, 307, 283, 307, 307, 286, 307, 280, 307, 272], 234) := by decide +kernel
theorem dX2_kindOf_248 : decode cX2_kindOf 248 = .ok (.iconst 1, 1) := by decide +kernel
theorem dX2_kindOf_249 : decode cX2_kindOf 249 = .ok (.ireturn, 1) := by decide +kernel
theorem dX2_kindOf_250 : decode cX2_kindOf 250 = .ok (.iconst 2, 1) := by decide +kernel
theorem dX2_kindOf_251 : decode cX2_kindOf 251 = .ok (.ireturn, 1) := by decide +kernel
theorem dX2_kindOf_252 : decode cX2_kindOf 252 = .ok (.iload_n 1, 1) := by decide +kernel
theorem dX2_kindOf_253 : decode cX2_kindOf 253 = .ok (.ifCond .ne 8, 3) := by decide +kernel
theorem dX2_kindOf_256 : decode cX2_kindOf 256 = .ok (.bipush 8, 2) := by decide +kernel
theorem dX2_kindOf_258 : decode cX2_kindOf 258 = .ok (.iload_n 3, 1) := by decide +kernel
theorem dX2_kindOf_259 : decode cX2_kindOf 259 = .ok (.iadd, 1) := by decide +kernel
theorem dX2_kindOf_260 : decode cX2_kindOf 260 = .ok (.ireturn, 1) := by decide +kernel
theorem dX2_kindOf_261 : decode cX2_kindOf 261 = .ok (.iload_n 2, 1) := by decide +kernel
theorem dX2_kindOf_262 : decode cX2_kindOf 262 = .ok (.ifCond .ne 7, 3) := by decide +kernel
theorem dX2_kindOf_265 : decode cX2_kindOf 265 = .ok (.iconst 3, 1) := by decide +kernel
theorem dX2_kindOf_266 : decode cX2_kindOf 266 = .ok (.goto 4, 3) := by decide +kernel
theorem dX2_kindOf_269 : decode cX2_kindOf 269 = .ok (.iconst 4, 1) := by decide +kernel
theorem dX2_kindOf_270 : decode cX2_kindOf 270 = .ok (.ireturn, 1) := by decide +kernel
theorem dX2_kindOf_271 : decode cX2_kindOf 271 = .ok (.iconst 4, 1) := by decide +kernel
theorem dX2_kindOf_272 : decode cX2_kindOf 272 = .ok (.ireturn, 1) := by decide +kernel
theorem dX2_kindOf_273 : decode cX2_kindOf 273 = .ok (.iload_n 1, 1) := by decide +kernel
theorem dX2_kindOf_274 : decode cX2_kindOf 274 = .ok (.ifCond .eq 7, 3) := by decide +kernel
theorem dX2_kindOf_277 : decode cX2_kindOf 277 = .ok (.iconst 5, 1) := by decide +kernel
theorem dX2_kindOf_278 : decode cX2_kindOf 278 = .ok (.goto 7, 3) := by decide +kernel
theorem dX2_kindOf_281 : decode cX2_kindOf 281 = .ok (.bipush 10, 2) := by decide +kernel
theorem dX2_kindOf_283 : decode cX2_kindOf 283 = .ok (.iload_n 3, 1) := by decide +kernel
theorem dX2_kindOf_284 : decode cX2_kindOf 284 = .ok (.iadd, 1) := by decide +kernel
theorem dX2_kindOf_285 : decode cX2_kindOf 285 = .ok (.ireturn, 1) := by decide +kernel
theorem dX2_kindOf_286 : decode cX2_kindOf 286 = .ok (.bipush 6, 2) := by decide +kernel
theorem dX2_kindOf_288 : decode cX2_kindOf 288 = .ok (.iload_n 3, 1) := by decide +kernel
theorem dX2_kindOf_289 : decode cX2_kindOf 289 = .ok (.iadd, 1) := by decide +kernel
theorem dX2_kindOf_290 : decode cX2_kindOf 290 = .ok (.ireturn, 1) := by decide +kernel
theorem dX2_kindOf_291 : decode cX2_kindOf 291 = .ok (.bipush 12, 2) := by decide +kernel
theorem dX2_kindOf_293 : decode cX2_kindOf 293 = .ok (.ireturn, 1) := by decide +kernel
theorem dX2_kindOf_294 : decode cX2_kindOf 294 = .ok (.bipush 13, 2) := by decide +kernel
theorem dX2_kindOf_296 : decode cX2_kindOf 296 = .ok (.ireturn, 1) := by decide +kernel
theorem dX2_kindOf_297 : decode cX2_kindOf 297 = .ok (.bipush 14, 2) := by decide +kernel
theorem dX2_kindOf_299 : decode cX2_kindOf 299 = .ok (.ireturn, 1) := by decide +kernel
theorem dX2_kindOf_300 : decode cX2_kindOf 300 = .ok (.bipush 15, 2) := by decide +kernel
theorem dX2_kindOf_302 : decode cX2_kindOf 302 = .ok (.ireturn, 1) := by decide +kernel
theorem dX2_kindOf_303 : decode cX2_kindOf 303 = .ok (.iload_n 2, 1) := by decide +kernel
theorem dX2_kindOf_304 : decode cX2_kindOf 304 = .ok (.ldc 65, 2) := by decide +kernel
theorem dX2_kindOf_306 : decode cX2_kindOf 306 = .ok (.iand, 1) := by decide +kernel
theorem dX2_kindOf_307 : decode cX2_kindOf 307 = .ok (.ifCond .ne 8, 3) := by decide +kernel
theorem dX2_kindOf_310 : decode cX2_kindOf 310 = .ok (.bipush 16, 2) := by decide +kernel
theorem dX2_kindOf_312 : decode cX2_kindOf 312 = .ok (.goto 5, 3) := by decide +kernel
theorem dX2_kindOf_315 : decode cX2_kindOf 315 = .ok (.bipush 17, 2) := by decide +kernel
theorem dX2_kindOf_317 : decode cX2_kindOf 317 = .ok (.ireturn, 1) := by decide +kernel
theorem dX2_kindOf_318 : decode cX2_kindOf 318 = .ok (.bipush 18, 2) := by decide +kernel
theorem dX2_kindOf_320 : decode cX2_kindOf 320 = .ok (.ireturn, 1) := by decide +kernel
theorem dX2_kindOf_321 : decode cX2_kindOf 321 = .ok (.iconst 0, 1) := by decide +kernel
theorem dX2_kindOf_322 : decode cX2_kindOf 322 = .ok (.ireturn, 1) := by decide +kernel
set_option maxRecDepth 20000 in
theorem ggX2_findDigits_X4_holds : GoodIn wsX2_findDigits wsX4_holds := goodIn_r _ [9] (by decide +kernel) (by decide +kernel)
set_option maxRecDepth 20000 in
theorem gX2_findDigits_X4_holds_n67 : GoodIn wsX2_findDigits (wsX4_holds) := ggX2_findDigits_X4_holds
set_option maxRecDepth 20000 in
theorem ggX2_findDigits_X2_standsAhead : GoodIn wsX2_findDigits wsX2_standsAhead := goodIn_r _ [14, 5, 15, 16, 17, 18, 19, 20] (by decide +kernel) (by decide +kernel)
set_option maxRecDepth 20000 in
theorem gX2_findDigits_X2_standsAhead : GoodIn wsX2_findDigits (wsV RX2 71 RX2 yX2_standsAhead wsX2_standsAhead) := goodIn_app (goodIn_of _ (by decide +kernel)) ggX2_findDigits_X2_standsAhead
theorem dX2_findDigits_0 : decode cX2_findDigits 0 = .ok (.iconst 0, 1) := by decide +kernel
theorem dX2_findDigits_1 : decode cX2_findDigits 1 = .ok (.istore_n 1, 1) := by decide +kernel
theorem dX2_findDigits_2 : decode cX2_findDigits 2 = .ok (.iload_n 1, 1) := by decide +kernel
theorem dX2_findDigits_3 : decode cX2_findDigits 3 = .ok (.aload_n 0, 1) := by decide +kernel
theorem dX2_findDigits_4 : decode cX2_findDigits 4 = .ok (.getfield 27, 3) := by decide +kernel
theorem dX2_findDigits_7 : decode cX2_findDigits 7 = .ok (.if_icmp .ge 95, 3) := by decide +kernel
theorem dX2_findDigits_10 : decode cX2_findDigits 10 = .ok (.iload_n 1, 1) := by decide +kernel
theorem dX2_findDigits_11 : decode cX2_findDigits 11 = .ok (.bipush 80, 2) := by decide +kernel
theorem dX2_findDigits_13 : decode cX2_findDigits 13 = .ok (.if_icmp .ge 89, 3) := by decide +kernel
theorem dX2_findDigits_16 : decode cX2_findDigits 16 = .ok (.iconst 0, 1) := by decide +kernel
theorem dX2_findDigits_17 : decode cX2_findDigits 17 = .ok (.istore_n 2, 1) := by decide +kernel
theorem dX2_findDigits_18 : decode cX2_findDigits 18 = .ok (.ldc 66, 2) := by decide +kernel
theorem dX2_findDigits_20 : decode cX2_findDigits 20 = .ok (.aload_n 0, 1) := by decide +kernel
theorem dX2_findDigits_21 : decode cX2_findDigits 21 = .ok (.getfield 21, 3) := by decide +kernel
theorem dX2_findDigits_24 : decode cX2_findDigits 24 = .ok (.iload_n 1, 1) := by decide +kernel
theorem dX2_findDigits_25 : decode cX2_findDigits 25 = .ok (.iaload, 1) := by decide +kernel
theorem dX2_findDigits_26 : decode cX2_findDigits 26 = .ok (.invokestatic 67, 3) := by decide +kernel
theorem dX2_findDigits_29 : decode cX2_findDigits 29 = .ok (.ifCond .eq 13, 3) := by decide +kernel
theorem dX2_findDigits_32 : decode cX2_findDigits 32 = .ok (.aload_n 0, 1) := by decide +kernel
theorem dX2_findDigits_33 : decode cX2_findDigits 33 = .ok (.getfield 15, 3) := by decide +kernel
theorem dX2_findDigits_36 : decode cX2_findDigits 36 = .ok (.iload_n 1, 1) := by decide +kernel
theorem dX2_findDigits_37 : decode cX2_findDigits 37 = .ok (.iaload, 1) := by decide +kernel
theorem dX2_findDigits_38 : decode cX2_findDigits 38 = .ok (.istore_n 2, 1) := by decide +kernel
theorem dX2_findDigits_39 : decode cX2_findDigits 39 = .ok (.goto 50, 3) := by decide +kernel
theorem dX2_findDigits_42 : decode cX2_findDigits 42 = .ok (.sipush 3840, 3) := by decide +kernel
theorem dX2_findDigits_45 : decode cX2_findDigits 45 = .ok (.aload_n 0, 1) := by decide +kernel
theorem dX2_findDigits_46 : decode cX2_findDigits 46 = .ok (.getfield 21, 3) := by decide +kernel
theorem dX2_findDigits_49 : decode cX2_findDigits 49 = .ok (.iload_n 1, 1) := by decide +kernel
theorem dX2_findDigits_50 : decode cX2_findDigits 50 = .ok (.iaload, 1) := by decide +kernel
theorem dX2_findDigits_51 : decode cX2_findDigits 51 = .ok (.invokestatic 67, 3) := by decide +kernel
theorem dX2_findDigits_54 : decode cX2_findDigits 54 = .ok (.ifCond .eq 35, 3) := by decide +kernel
theorem dX2_findDigits_57 : decode cX2_findDigits 57 = .ok (.aload_n 0, 1) := by decide +kernel
theorem dX2_findDigits_58 : decode cX2_findDigits 58 = .ok (.aload_n 0, 1) := by decide +kernel
theorem dX2_findDigits_59 : decode cX2_findDigits 59 = .ok (.getfield 9, 3) := by decide +kernel
theorem dX2_findDigits_62 : decode cX2_findDigits 62 = .ok (.iload_n 1, 1) := by decide +kernel
theorem dX2_findDigits_63 : decode cX2_findDigits 63 = .ok (.iaload, 1) := by decide +kernel
theorem dX2_findDigits_64 : decode cX2_findDigits 64 = .ok (.iload_n 1, 1) := by decide +kernel
theorem dX2_findDigits_65 : decode cX2_findDigits 65 = .ok (.invokevirtual 71, 3) := by decide +kernel
theorem dX2_findDigits_68 : decode cX2_findDigits 68 = .ok (.ifCond .eq 12, 3) := by decide +kernel
theorem dX2_findDigits_71 : decode cX2_findDigits 71 = .ok (.aload_n 0, 1) := by decide +kernel
theorem dX2_findDigits_72 : decode cX2_findDigits 72 = .ok (.getfield 15, 3) := by decide +kernel
theorem dX2_findDigits_75 : decode cX2_findDigits 75 = .ok (.iload_n 1, 1) := by decide +kernel
theorem dX2_findDigits_76 : decode cX2_findDigits 76 = .ok (.iaload, 1) := by decide +kernel
theorem dX2_findDigits_77 : decode cX2_findDigits 77 = .ok (.goto 11, 3) := by decide +kernel
theorem dX2_findDigits_80 : decode cX2_findDigits 80 = .ok (.aload_n 0, 1) := by decide +kernel
theorem dX2_findDigits_81 : decode cX2_findDigits 81 = .ok (.getfield 15, 3) := by decide +kernel
theorem dX2_findDigits_84 : decode cX2_findDigits 84 = .ok (.iload_n 1, 1) := by decide +kernel
theorem dX2_findDigits_85 : decode cX2_findDigits 85 = .ok (.iaload, 1) := by decide +kernel
theorem dX2_findDigits_86 : decode cX2_findDigits 86 = .ok (.iconst 1, 1) := by decide +kernel
theorem dX2_findDigits_87 : decode cX2_findDigits 87 = .ok (.isub, 1) := by decide +kernel
theorem dX2_findDigits_88 : decode cX2_findDigits 88 = .ok (.istore_n 2, 1) := by decide +kernel
theorem dX2_findDigits_89 : decode cX2_findDigits 89 = .ok (.aload_n 0, 1) := by decide +kernel
theorem dX2_findDigits_90 : decode cX2_findDigits 90 = .ok (.getfield 24, 3) := by decide +kernel
theorem dX2_findDigits_93 : decode cX2_findDigits 93 = .ok (.iload_n 1, 1) := by decide +kernel
theorem dX2_findDigits_94 : decode cX2_findDigits 94 = .ok (.iload_n 2, 1) := by decide +kernel
theorem dX2_findDigits_95 : decode cX2_findDigits 95 = .ok (.iastore, 1) := by decide +kernel
theorem dX2_findDigits_96 : decode cX2_findDigits 96 = .ok (.iinc 1 1, 3) := by decide +kernel
theorem dX2_findDigits_99 : decode cX2_findDigits 99 = .ok (.goto (-97), 3) := by decide +kernel
theorem dX2_findDigits_102 : decode cX2_findDigits 102 = .ok (.return_, 1) := by decide +kernel
theorem dX2_standsAhead_0 : decode cX2_standsAhead 0 = .ok (.iconst 0, 1) := by decide +kernel
theorem dX2_standsAhead_1 : decode cX2_standsAhead 1 = .ok (.istore_n 3, 1) := by decide +kernel
theorem dX2_standsAhead_2 : decode cX2_standsAhead 2 = .ok (.iload_n 3, 1) := by decide +kernel
theorem dX2_standsAhead_3 : decode cX2_standsAhead 3 = .ok (.iload_n 2, 1) := by decide +kernel
theorem dX2_standsAhead_4 : decode cX2_standsAhead 4 = .ok (.if_icmp .ge 27, 3) := by decide +kernel
theorem dX2_standsAhead_7 : decode cX2_standsAhead 7 = .ok (.iload_n 3, 1) := by decide +kernel
theorem dX2_standsAhead_8 : decode cX2_standsAhead 8 = .ok (.bipush 80, 2) := by decide +kernel
theorem dX2_standsAhead_10 : decode cX2_standsAhead 10 = .ok (.if_icmp .ge 21, 3) := by decide +kernel
theorem dX2_standsAhead_13 : decode cX2_standsAhead 13 = .ok (.aload_n 0, 1) := by decide +kernel
theorem dX2_standsAhead_14 : decode cX2_standsAhead 14 = .ok (.getfield 9, 3) := by decide +kernel
theorem dX2_standsAhead_17 : decode cX2_standsAhead 17 = .ok (.iload_n 3, 1) := by decide +kernel
theorem dX2_standsAhead_18 : decode cX2_standsAhead 18 = .ok (.iaload, 1) := by decide +kernel
theorem dX2_standsAhead_19 : decode cX2_standsAhead 19 = .ok (.iload_n 1, 1) := by decide +kernel
theorem dX2_standsAhead_20 : decode cX2_standsAhead 20 = .ok (.if_icmp .ne 5, 3) := by decide +kernel
theorem dX2_standsAhead_23 : decode cX2_standsAhead 23 = .ok (.iconst 1, 1) := by decide +kernel
theorem dX2_standsAhead_24 : decode cX2_standsAhead 24 = .ok (.ireturn, 1) := by decide +kernel
theorem dX2_standsAhead_25 : decode cX2_standsAhead 25 = .ok (.iinc 3 1, 3) := by decide +kernel
theorem dX2_standsAhead_28 : decode cX2_standsAhead 28 = .ok (.goto (-26), 3) := by decide +kernel
theorem dX2_standsAhead_31 : decode cX2_standsAhead 31 = .ok (.iconst 0, 1) := by decide +kernel
theorem dX2_standsAhead_32 : decode cX2_standsAhead 32 = .ok (.ireturn, 1) := by decide +kernel
set_option maxRecDepth 20000 in
theorem ggX2_firstMisplaced_X4_isKind : GoodIn wsX2_firstMisplaced wsX4_isKind := goodIn_r _ [10] (by decide +kernel) (by decide +kernel)
set_option maxRecDepth 20000 in
theorem gX2_firstMisplaced_X4_isKind_n75 : GoodIn wsX2_firstMisplaced (wsX4_isKind) := ggX2_firstMisplaced_X4_isKind
set_option maxRecDepth 20000 in
theorem ggX2_firstMisplaced_X4_holds : GoodIn wsX2_firstMisplaced wsX4_holds := goodIn_r _ [12] (by decide +kernel) (by decide +kernel)
set_option maxRecDepth 20000 in
theorem gX2_firstMisplaced_X4_holds_n67 : GoodIn wsX2_firstMisplaced (wsX4_holds) := ggX2_firstMisplaced_X4_holds
set_option maxRecDepth 20000 in
theorem ggX2_firstMisplaced_X2_hasRivalAhead : GoodIn wsX2_firstMisplaced wsX2_hasRivalAhead := goodIn_r _ [17, 7, 3, 18, 19, 20, 16, 21, 11, 9, 12, 27, 28, 29, 30, 31, 32] (by decide +kernel) (by decide +kernel)
set_option maxRecDepth 20000 in
theorem gX2_firstMisplaced_X2_hasRivalAhead : GoodIn wsX2_firstMisplaced (wsV RX2 82 RX2 yX2_hasRivalAhead wsX2_hasRivalAhead) := goodIn_app (goodIn_of _ (by decide +kernel)) ggX2_firstMisplaced_X2_hasRivalAhead
set_option maxRecDepth 20000 in
theorem ggX2_firstMisplaced_X4_signsCounted : GoodIn wsX2_firstMisplaced wsX4_signsCounted := goodIn_r _ [23, 24, 25, 9, 26] (by decide +kernel) (by decide +kernel)
set_option maxRecDepth 20000 in
theorem gX2_firstMisplaced_X4_signsCounted_n85 : GoodIn wsX2_firstMisplaced (wsX4_signsCounted) := ggX2_firstMisplaced_X4_signsCounted
theorem dX2_firstMisplaced_0 : decode cX2_firstMisplaced 0 = .ok (.ldc 74, 2) := by decide +kernel
theorem dX2_firstMisplaced_2 : decode cX2_firstMisplaced 2 = .ok (.istore_n 1, 1) := by decide +kernel
theorem dX2_firstMisplaced_3 : decode cX2_firstMisplaced 3 = .ok (.iconst 0, 1) := by decide +kernel
theorem dX2_firstMisplaced_4 : decode cX2_firstMisplaced 4 = .ok (.istore_n 2, 1) := by decide +kernel
theorem dX2_firstMisplaced_5 : decode cX2_firstMisplaced 5 = .ok (.iconst 0, 1) := by decide +kernel
theorem dX2_firstMisplaced_6 : decode cX2_firstMisplaced 6 = .ok (.istore_n 3, 1) := by decide +kernel
theorem dX2_firstMisplaced_7 : decode cX2_firstMisplaced 7 = .ok (.iconst 0, 1) := by decide +kernel
theorem dX2_firstMisplaced_8 : decode cX2_firstMisplaced 8 = .ok (.istore 4, 2) := by decide +kernel
theorem dX2_firstMisplaced_10 : decode cX2_firstMisplaced 10 = .ok (.iload 4, 2) := by decide +kernel
theorem dX2_firstMisplaced_12 : decode cX2_firstMisplaced 12 = .ok (.aload_n 0, 1) := by decide +kernel
theorem dX2_firstMisplaced_13 : decode cX2_firstMisplaced 13 = .ok (.getfield 27, 3) := by decide +kernel
theorem dX2_firstMisplaced_16 : decode cX2_firstMisplaced 16 = .ok (.if_icmp .ge 147, 3) := by decide +kernel
theorem dX2_firstMisplaced_19 : decode cX2_firstMisplaced 19 = .ok (.iload 4, 2) := by decide +kernel
theorem dX2_firstMisplaced_21 : decode cX2_firstMisplaced 21 = .ok (.bipush 80, 2) := by decide +kernel
theorem dX2_firstMisplaced_23 : decode cX2_firstMisplaced 23 = .ok (.if_icmp .ge 140, 3) := by decide +kernel
theorem dX2_firstMisplaced_26 : decode cX2_firstMisplaced 26 = .ok (.aload_n 0, 1) := by decide +kernel
theorem dX2_firstMisplaced_27 : decode cX2_firstMisplaced 27 = .ok (.getfield 21, 3) := by decide +kernel
theorem dX2_firstMisplaced_30 : decode cX2_firstMisplaced 30 = .ok (.iload 4, 2) := by decide +kernel
theorem dX2_firstMisplaced_32 : decode cX2_firstMisplaced 32 = .ok (.iaload, 1) := by decide +kernel
theorem dX2_firstMisplaced_33 : decode cX2_firstMisplaced 33 = .ok (.istore 5, 2) := by decide +kernel
theorem dX2_firstMisplaced_35 : decode cX2_firstMisplaced 35 = .ok (.iload 5, 2) := by decide +kernel
theorem dX2_firstMisplaced_37 : decode cX2_firstMisplaced 37 = .ok (.invokestatic 75, 3) := by decide +kernel
theorem dX2_firstMisplaced_40 : decode cX2_firstMisplaced 40 = .ok (.ifCond .eq 12, 3) := by decide +kernel
theorem dX2_firstMisplaced_43 : decode cX2_firstMisplaced 43 = .ok (.iload_n 1, 1) := by decide +kernel
theorem dX2_firstMisplaced_44 : decode cX2_firstMisplaced 44 = .ok (.iload 5, 2) := by decide +kernel
theorem dX2_firstMisplaced_46 : decode cX2_firstMisplaced 46 = .ok (.invokestatic 67, 3) := by decide +kernel
theorem dX2_firstMisplaced_49 : decode cX2_firstMisplaced 49 = .ok (.ifCond .ne 11, 3) := by decide +kernel
theorem dX2_firstMisplaced_52 : decode cX2_firstMisplaced 52 = .ok (.aload_n 0, 1) := by decide +kernel
theorem dX2_firstMisplaced_53 : decode cX2_firstMisplaced 53 = .ok (.getfield 18, 3) := by decide +kernel
theorem dX2_firstMisplaced_56 : decode cX2_firstMisplaced 56 = .ok (.iload 4, 2) := by decide +kernel
theorem dX2_firstMisplaced_58 : decode cX2_firstMisplaced 58 = .ok (.iaload, 1) := by decide +kernel
theorem dX2_firstMisplaced_59 : decode cX2_firstMisplaced 59 = .ok (.ireturn, 1) := by decide +kernel
theorem dX2_firstMisplaced_60 : decode cX2_firstMisplaced 60 = .ok (.iload_n 1, 1) := by decide +kernel
theorem dX2_firstMisplaced_61 : decode cX2_firstMisplaced 61 = .ok (.getstatic 79, 3) := by decide +kernel
theorem dX2_firstMisplaced_64 : decode cX2_firstMisplaced 64 = .ok (.iload 5, 2) := by decide +kernel
theorem dX2_firstMisplaced_66 : decode cX2_firstMisplaced 66 = .ok (.iaload, 1) := by decide +kernel
theorem dX2_firstMisplaced_67 : decode cX2_firstMisplaced 67 = .ok (.iand, 1) := by decide +kernel
theorem dX2_firstMisplaced_68 : decode cX2_firstMisplaced 68 = .ok (.istore_n 1, 1) := by decide +kernel
theorem dX2_firstMisplaced_69 : decode cX2_firstMisplaced 69 = .ok (.aload_n 0, 1) := by decide +kernel
theorem dX2_firstMisplaced_70 : decode cX2_firstMisplaced 70 = .ok (.getfield 15, 3) := by decide +kernel
theorem dX2_firstMisplaced_73 : decode cX2_firstMisplaced 73 = .ok (.iload 4, 2) := by decide +kernel
theorem dX2_firstMisplaced_75 : decode cX2_firstMisplaced 75 = .ok (.iaload, 1) := by decide +kernel
theorem dX2_firstMisplaced_76 : decode cX2_firstMisplaced 76 = .ok (.iconst 1, 1) := by decide +kernel
theorem dX2_firstMisplaced_77 : decode cX2_firstMisplaced 77 = .ok (.if_icmp .le 12, 3) := by decide +kernel
theorem dX2_firstMisplaced_80 : decode cX2_firstMisplaced 80 = .ok (.iload_n 1, 1) := by decide +kernel
theorem dX2_firstMisplaced_81 : decode cX2_firstMisplaced 81 = .ok (.iload 5, 2) := by decide +kernel
theorem dX2_firstMisplaced_83 : decode cX2_firstMisplaced 83 = .ok (.invokestatic 67, 3) := by decide +kernel
theorem dX2_firstMisplaced_86 : decode cX2_firstMisplaced 86 = .ok (.ifCond .eq 12, 3) := by decide +kernel
theorem dX2_firstMisplaced_89 : decode cX2_firstMisplaced 89 = .ok (.aload_n 0, 1) := by decide +kernel
theorem dX2_firstMisplaced_90 : decode cX2_firstMisplaced 90 = .ok (.iload 4, 2) := by decide +kernel
theorem dX2_firstMisplaced_92 : decode cX2_firstMisplaced 92 = .ok (.invokevirtual 82, 3) := by decide +kernel
theorem dX2_firstMisplaced_95 : decode cX2_firstMisplaced 95 = .ok (.ifCond .eq 11, 3) := by decide +kernel
theorem dX2_firstMisplaced_98 : decode cX2_firstMisplaced 98 = .ok (.aload_n 0, 1) := by decide +kernel
theorem dX2_firstMisplaced_99 : decode cX2_firstMisplaced 99 = .ok (.getfield 18, 3) := by decide +kernel
theorem dX2_firstMisplaced_102 : decode cX2_firstMisplaced 102 = .ok (.iload 4, 2) := by decide +kernel
theorem dX2_firstMisplaced_104 : decode cX2_firstMisplaced 104 = .ok (.iaload, 1) := by decide +kernel
theorem dX2_firstMisplaced_105 : decode cX2_firstMisplaced 105 = .ok (.ireturn, 1) := by decide +kernel
theorem dX2_firstMisplaced_106 : decode cX2_firstMisplaced 106 = .ok (.iload_n 2, 1) := by decide +kernel
theorem dX2_firstMisplaced_107 : decode cX2_firstMisplaced 107 = .ok (.aload_n 0, 1) := by decide +kernel
theorem dX2_firstMisplaced_108 : decode cX2_firstMisplaced 108 = .ok (.getfield 24, 3) := by decide +kernel
theorem dX2_firstMisplaced_111 : decode cX2_firstMisplaced 111 = .ok (.iload 4, 2) := by decide +kernel
theorem dX2_firstMisplaced_113 : decode cX2_firstMisplaced 113 = .ok (.iaload, 1) := by decide +kernel
theorem dX2_firstMisplaced_114 : decode cX2_firstMisplaced 114 = .ok (.iadd, 1) := by decide +kernel
theorem dX2_firstMisplaced_115 : decode cX2_firstMisplaced 115 = .ok (.istore_n 2, 1) := by decide +kernel
theorem dX2_firstMisplaced_116 : decode cX2_firstMisplaced 116 = .ok (.iload_n 3, 1) := by decide +kernel
theorem dX2_firstMisplaced_117 : decode cX2_firstMisplaced 117 = .ok (.aload_n 0, 1) := by decide +kernel
theorem dX2_firstMisplaced_118 : decode cX2_firstMisplaced 118 = .ok (.getfield 9, 3) := by decide +kernel
theorem dX2_firstMisplaced_121 : decode cX2_firstMisplaced 121 = .ok (.iload 4, 2) := by decide +kernel
theorem dX2_firstMisplaced_123 : decode cX2_firstMisplaced 123 = .ok (.iaload, 1) := by decide +kernel
theorem dX2_firstMisplaced_124 : decode cX2_firstMisplaced 124 = .ok (.aload_n 0, 1) := by decide +kernel
theorem dX2_firstMisplaced_125 : decode cX2_firstMisplaced 125 = .ok (.getfield 15, 3) := by decide +kernel
theorem dX2_firstMisplaced_128 : decode cX2_firstMisplaced 128 = .ok (.iload 4, 2) := by decide +kernel
theorem dX2_firstMisplaced_130 : decode cX2_firstMisplaced 130 = .ok (.iaload, 1) := by decide +kernel
theorem dX2_firstMisplaced_131 : decode cX2_firstMisplaced 131 = .ok (.invokestatic 85, 3) := by decide +kernel
theorem dX2_firstMisplaced_134 : decode cX2_firstMisplaced 134 = .ok (.iadd, 1) := by decide +kernel
theorem dX2_firstMisplaced_135 : decode cX2_firstMisplaced 135 = .ok (.istore_n 3, 1) := by decide +kernel
theorem dX2_firstMisplaced_136 : decode cX2_firstMisplaced 136 = .ok (.iload_n 2, 1) := by decide +kernel
theorem dX2_firstMisplaced_137 : decode cX2_firstMisplaced 137 = .ok (.bipush 31, 2) := by decide +kernel
theorem dX2_firstMisplaced_139 : decode cX2_firstMisplaced 139 = .ok (.if_icmp .gt 10, 3) := by decide +kernel
theorem dX2_firstMisplaced_142 : decode cX2_firstMisplaced 142 = .ok (.iload_n 3, 1) := by decide +kernel
theorem dX2_firstMisplaced_143 : decode cX2_firstMisplaced 143 = .ok (.sipush 9999, 3) := by decide +kernel
theorem dX2_firstMisplaced_146 : decode cX2_firstMisplaced 146 = .ok (.if_icmp .le 11, 3) := by decide +kernel
theorem dX2_firstMisplaced_149 : decode cX2_firstMisplaced 149 = .ok (.aload_n 0, 1) := by decide +kernel
theorem dX2_firstMisplaced_150 : decode cX2_firstMisplaced 150 = .ok (.getfield 18, 3) := by decide +kernel
theorem dX2_firstMisplaced_153 : decode cX2_firstMisplaced 153 = .ok (.iload 4, 2) := by decide +kernel
theorem dX2_firstMisplaced_155 : decode cX2_firstMisplaced 155 = .ok (.iaload, 1) := by decide +kernel
theorem dX2_firstMisplaced_156 : decode cX2_firstMisplaced 156 = .ok (.ireturn, 1) := by decide +kernel
theorem dX2_firstMisplaced_157 : decode cX2_firstMisplaced 157 = .ok (.iinc 4 1, 3) := by decide +kernel
theorem dX2_firstMisplaced_160 : decode cX2_firstMisplaced 160 = .ok (.goto (-150), 3) := by decide +kernel
theorem dX2_firstMisplaced_163 : decode cX2_firstMisplaced 163 = .ok (.iconst (-1), 1) := by decide +kernel
theorem dX2_firstMisplaced_164 : decode cX2_firstMisplaced 164 = .ok (.ireturn, 1) := by decide +kernel
set_option maxRecDepth 20000 in
theorem ggX2_hasRivalAhead_X2_standsAhead : GoodIn wsX2_hasRivalAhead wsX2_standsAhead := goodIn_r _ [7, 1, 11, 12, 13, 14, 15, 16] (by decide +kernel) (by decide +kernel)
set_option maxRecDepth 20000 in
theorem gX2_hasRivalAhead_X2_standsAhead : GoodIn wsX2_hasRivalAhead (wsV RX2 71 RX2 yX2_standsAhead wsX2_standsAhead) := goodIn_app (goodIn_of _ (by decide +kernel)) ggX2_hasRivalAhead_X2_standsAhead
set_option maxRecDepth 20000 in
theorem ggX2_hasRivalAhead_X4_holds : GoodIn wsX2_hasRivalAhead wsX4_holds := goodIn_r _ [10] (by decide +kernel) (by decide +kernel)
set_option maxRecDepth 20000 in
theorem gX2_hasRivalAhead_X4_holds_n67 : GoodIn wsX2_hasRivalAhead (wsX4_holds) := ggX2_hasRivalAhead_X4_holds
theorem dX2_hasRivalAhead_0 : decode cX2_hasRivalAhead 0 = .ok (.iload_n 1, 1) := by decide +kernel
theorem dX2_hasRivalAhead_1 : decode cX2_hasRivalAhead 1 = .ok (.ifCond .lt 9, 3) := by decide +kernel
theorem dX2_hasRivalAhead_4 : decode cX2_hasRivalAhead 4 = .ok (.iload_n 1, 1) := by decide +kernel
theorem dX2_hasRivalAhead_5 : decode cX2_hasRivalAhead 5 = .ok (.bipush 80, 2) := by decide +kernel
theorem dX2_hasRivalAhead_7 : decode cX2_hasRivalAhead 7 = .ok (.if_icmp .lt 5, 3) := by decide +kernel
theorem dX2_hasRivalAhead_10 : decode cX2_hasRivalAhead 10 = .ok (.iconst 0, 1) := by decide +kernel
theorem dX2_hasRivalAhead_11 : decode cX2_hasRivalAhead 11 = .ok (.ireturn, 1) := by decide +kernel
theorem dX2_hasRivalAhead_12 : decode cX2_hasRivalAhead 12 = .ok (.aload_n 0, 1) := by decide +kernel
theorem dX2_hasRivalAhead_13 : decode cX2_hasRivalAhead 13 = .ok (.getfield 9, 3) := by decide +kernel
theorem dX2_hasRivalAhead_16 : decode cX2_hasRivalAhead 16 = .ok (.iload_n 1, 1) := by decide +kernel
theorem dX2_hasRivalAhead_17 : decode cX2_hasRivalAhead 17 = .ok (.iaload, 1) := by decide +kernel
theorem dX2_hasRivalAhead_18 : decode cX2_hasRivalAhead 18 = .ok (.lookupswitch 120 #[(42, 50), (43, 58), (45, 89), (90, 42)], 42) := by decide +kernel
theorem dX2_hasRivalAhead_60 : decode cX2_hasRivalAhead 60 = .ok (.aload_n 0, 1) := by decide +kernel
theorem dX2_hasRivalAhead_61 : decode cX2_hasRivalAhead 61 = .ok (.bipush 42, 2) := by decide +kernel
theorem dX2_hasRivalAhead_63 : decode cX2_hasRivalAhead 63 = .ok (.iload_n 1, 1) := by decide +kernel
theorem dX2_hasRivalAhead_64 : decode cX2_hasRivalAhead 64 = .ok (.invokevirtual 71, 3) := by decide +kernel
theorem dX2_hasRivalAhead_67 : decode cX2_hasRivalAhead 67 = .ok (.ireturn, 1) := by decide +kernel
theorem dX2_hasRivalAhead_68 : decode cX2_hasRivalAhead 68 = .ok (.aload_n 0, 1) := by decide +kernel
theorem dX2_hasRivalAhead_69 : decode cX2_hasRivalAhead 69 = .ok (.bipush 90, 2) := by decide +kernel
theorem dX2_hasRivalAhead_71 : decode cX2_hasRivalAhead 71 = .ok (.iload_n 1, 1) := by decide +kernel
theorem dX2_hasRivalAhead_72 : decode cX2_hasRivalAhead 72 = .ok (.invokevirtual 71, 3) := by decide +kernel
theorem dX2_hasRivalAhead_75 : decode cX2_hasRivalAhead 75 = .ok (.ireturn, 1) := by decide +kernel
theorem dX2_hasRivalAhead_76 : decode cX2_hasRivalAhead 76 = .ok (.sipush 3840, 3) := by decide +kernel
theorem dX2_hasRivalAhead_79 : decode cX2_hasRivalAhead 79 = .ok (.aload_n 0, 1) := by decide +kernel
theorem dX2_hasRivalAhead_80 : decode cX2_hasRivalAhead 80 = .ok (.getfield 21, 3) := by decide +kernel
theorem dX2_hasRivalAhead_83 : decode cX2_hasRivalAhead 83 = .ok (.iload_n 1, 1) := by decide +kernel
theorem dX2_hasRivalAhead_84 : decode cX2_hasRivalAhead 84 = .ok (.iaload, 1) := by decide +kernel
theorem dX2_hasRivalAhead_85 : decode cX2_hasRivalAhead 85 = .ok (.invokestatic 67, 3) := by decide +kernel
theorem dX2_hasRivalAhead_88 : decode cX2_hasRivalAhead 88 = .ok (.ifCond .eq 17, 3) := by decide +kernel
theorem dX2_hasRivalAhead_91 : decode cX2_hasRivalAhead 91 = .ok (.aload_n 0, 1) := by decide +kernel
theorem dX2_hasRivalAhead_92 : decode cX2_hasRivalAhead 92 = .ok (.bipush 45, 2) := by decide +kernel
theorem dX2_hasRivalAhead_94 : decode cX2_hasRivalAhead 94 = .ok (.iload_n 1, 1) := by decide +kernel
theorem dX2_hasRivalAhead_95 : decode cX2_hasRivalAhead 95 = .ok (.invokevirtual 71, 3) := by decide +kernel
theorem dX2_hasRivalAhead_98 : decode cX2_hasRivalAhead 98 = .ok (.ifCond .eq 7, 3) := by decide +kernel
theorem dX2_hasRivalAhead_101 : decode cX2_hasRivalAhead 101 = .ok (.iconst 1, 1) := by decide +kernel
theorem dX2_hasRivalAhead_102 : decode cX2_hasRivalAhead 102 = .ok (.goto 4, 3) := by decide +kernel
theorem dX2_hasRivalAhead_105 : decode cX2_hasRivalAhead 105 = .ok (.iconst 0, 1) := by decide +kernel
theorem dX2_hasRivalAhead_106 : decode cX2_hasRivalAhead 106 = .ok (.ireturn, 1) := by decide +kernel
theorem dX2_hasRivalAhead_107 : decode cX2_hasRivalAhead 107 = .ok (.sipush 3840, 3) := by decide +kernel
theorem dX2_hasRivalAhead_110 : decode cX2_hasRivalAhead 110 = .ok (.aload_n 0, 1) := by decide +kernel
theorem dX2_hasRivalAhead_111 : decode cX2_hasRivalAhead 111 = .ok (.getfield 21, 3) := by decide +kernel
theorem dX2_hasRivalAhead_114 : decode cX2_hasRivalAhead 114 = .ok (.iload_n 1, 1) := by decide +kernel
theorem dX2_hasRivalAhead_115 : decode cX2_hasRivalAhead 115 = .ok (.iaload, 1) := by decide +kernel
theorem dX2_hasRivalAhead_116 : decode cX2_hasRivalAhead 116 = .ok (.invokestatic 67, 3) := by decide +kernel
theorem dX2_hasRivalAhead_119 : decode cX2_hasRivalAhead 119 = .ok (.ifCond .eq 17, 3) := by decide +kernel
theorem dX2_hasRivalAhead_122 : decode cX2_hasRivalAhead 122 = .ok (.aload_n 0, 1) := by decide +kernel
theorem dX2_hasRivalAhead_123 : decode cX2_hasRivalAhead 123 = .ok (.bipush 43, 2) := by decide +kernel
theorem dX2_hasRivalAhead_125 : decode cX2_hasRivalAhead 125 = .ok (.iload_n 1, 1) := by decide +kernel
theorem dX2_hasRivalAhead_126 : decode cX2_hasRivalAhead 126 = .ok (.invokevirtual 71, 3) := by decide +kernel
theorem dX2_hasRivalAhead_129 : decode cX2_hasRivalAhead 129 = .ok (.ifCond .eq 7, 3) := by decide +kernel
theorem dX2_hasRivalAhead_132 : decode cX2_hasRivalAhead 132 = .ok (.iconst 1, 1) := by decide +kernel
theorem dX2_hasRivalAhead_133 : decode cX2_hasRivalAhead 133 = .ok (.goto 4, 3) := by decide +kernel
theorem dX2_hasRivalAhead_136 : decode cX2_hasRivalAhead 136 = .ok (.iconst 0, 1) := by decide +kernel
theorem dX2_hasRivalAhead_137 : decode cX2_hasRivalAhead 137 = .ok (.ireturn, 1) := by decide +kernel
theorem dX2_hasRivalAhead_138 : decode cX2_hasRivalAhead 138 = .ok (.iconst 0, 1) := by decide +kernel
theorem dX2_hasRivalAhead_139 : decode cX2_hasRivalAhead 139 = .ok (.ireturn, 1) := by decide +kernel
theorem dX2_kindsPresent_0 : decode cX2_kindsPresent 0 = .ok (.iconst 0, 1) := by decide +kernel
theorem dX2_kindsPresent_1 : decode cX2_kindsPresent 1 = .ok (.istore_n 1, 1) := by decide +kernel
theorem dX2_kindsPresent_2 : decode cX2_kindsPresent 2 = .ok (.iconst 0, 1) := by decide +kernel
theorem dX2_kindsPresent_3 : decode cX2_kindsPresent 3 = .ok (.istore_n 2, 1) := by decide +kernel
theorem dX2_kindsPresent_4 : decode cX2_kindsPresent 4 = .ok (.iload_n 2, 1) := by decide +kernel
theorem dX2_kindsPresent_5 : decode cX2_kindsPresent 5 = .ok (.aload_n 0, 1) := by decide +kernel
theorem dX2_kindsPresent_6 : decode cX2_kindsPresent 6 = .ok (.getfield 27, 3) := by decide +kernel
theorem dX2_kindsPresent_9 : decode cX2_kindsPresent 9 = .ok (.if_icmp .ge 26, 3) := by decide +kernel
theorem dX2_kindsPresent_12 : decode cX2_kindsPresent 12 = .ok (.iload_n 2, 1) := by decide +kernel
theorem dX2_kindsPresent_13 : decode cX2_kindsPresent 13 = .ok (.bipush 80, 2) := by decide +kernel
theorem dX2_kindsPresent_15 : decode cX2_kindsPresent 15 = .ok (.if_icmp .ge 20, 3) := by decide +kernel
theorem dX2_kindsPresent_18 : decode cX2_kindsPresent 18 = .ok (.iload_n 1, 1) := by decide +kernel
theorem dX2_kindsPresent_19 : decode cX2_kindsPresent 19 = .ok (.iconst 1, 1) := by decide +kernel
theorem dX2_kindsPresent_20 : decode cX2_kindsPresent 20 = .ok (.aload_n 0, 1) := by decide +kernel
theorem dX2_kindsPresent_21 : decode cX2_kindsPresent 21 = .ok (.getfield 21, 3) := by decide +kernel
theorem dX2_kindsPresent_24 : decode cX2_kindsPresent 24 = .ok (.iload_n 2, 1) := by decide +kernel
theorem dX2_kindsPresent_25 : decode cX2_kindsPresent 25 = .ok (.iaload, 1) := by decide +kernel
theorem dX2_kindsPresent_26 : decode cX2_kindsPresent 26 = .ok (.ishl, 1) := by decide +kernel
theorem dX2_kindsPresent_27 : decode cX2_kindsPresent 27 = .ok (.ior, 1) := by decide +kernel
theorem dX2_kindsPresent_28 : decode cX2_kindsPresent 28 = .ok (.istore_n 1, 1) := by decide +kernel
theorem dX2_kindsPresent_29 : decode cX2_kindsPresent 29 = .ok (.iinc 2 1, 3) := by decide +kernel
theorem dX2_kindsPresent_32 : decode cX2_kindsPresent 32 = .ok (.goto (-28), 3) := by decide +kernel
theorem dX2_kindsPresent_35 : decode cX2_kindsPresent 35 = .ok (.iload_n 1, 1) := by decide +kernel
theorem dX2_kindsPresent_36 : decode cX2_kindsPresent 36 = .ok (.ireturn, 1) := by decide +kernel
set_option maxRecDepth 20000 in
theorem ggX2_pointRun_X4_holds : GoodIn wsX2_pointRun wsX4_holds := goodIn_r _ [6] (by decide +kernel) (by decide +kernel)
set_option maxRecDepth 20000 in
theorem gX2_pointRun_X4_holds_n67 : GoodIn wsX2_pointRun (wsX4_holds) := ggX2_pointRun_X4_holds
theorem dX2_pointRun_0 : decode cX2_pointRun 0 = .ok (.iconst 0, 1) := by decide +kernel
theorem dX2_pointRun_1 : decode cX2_pointRun 1 = .ok (.istore_n 1, 1) := by decide +kernel
theorem dX2_pointRun_2 : decode cX2_pointRun 2 = .ok (.iload_n 1, 1) := by decide +kernel
theorem dX2_pointRun_3 : decode cX2_pointRun 3 = .ok (.aload_n 0, 1) := by decide +kernel
theorem dX2_pointRun_4 : decode cX2_pointRun 4 = .ok (.getfield 27, 3) := by decide +kernel
theorem dX2_pointRun_7 : decode cX2_pointRun 7 = .ok (.if_icmp .ge 31, 3) := by decide +kernel
theorem dX2_pointRun_10 : decode cX2_pointRun 10 = .ok (.iload_n 1, 1) := by decide +kernel
theorem dX2_pointRun_11 : decode cX2_pointRun 11 = .ok (.bipush 80, 2) := by decide +kernel
theorem dX2_pointRun_13 : decode cX2_pointRun 13 = .ok (.if_icmp .ge 25, 3) := by decide +kernel
theorem dX2_pointRun_16 : decode cX2_pointRun 16 = .ok (.ldc 64, 2) := by decide +kernel
theorem dX2_pointRun_18 : decode cX2_pointRun 18 = .ok (.aload_n 0, 1) := by decide +kernel
theorem dX2_pointRun_19 : decode cX2_pointRun 19 = .ok (.getfield 21, 3) := by decide +kernel
theorem dX2_pointRun_22 : decode cX2_pointRun 22 = .ok (.iload_n 1, 1) := by decide +kernel
theorem dX2_pointRun_23 : decode cX2_pointRun 23 = .ok (.iaload, 1) := by decide +kernel
theorem dX2_pointRun_24 : decode cX2_pointRun 24 = .ok (.invokestatic 67, 3) := by decide +kernel
theorem dX2_pointRun_27 : decode cX2_pointRun 27 = .ok (.ifCond .eq 5, 3) := by decide +kernel
theorem dX2_pointRun_30 : decode cX2_pointRun 30 = .ok (.iload_n 1, 1) := by decide +kernel
theorem dX2_pointRun_31 : decode cX2_pointRun 31 = .ok (.ireturn, 1) := by decide +kernel
theorem dX2_pointRun_32 : decode cX2_pointRun 32 = .ok (.iinc 1 1, 3) := by decide +kernel
theorem dX2_pointRun_35 : decode cX2_pointRun 35 = .ok (.goto (-33), 3) := by decide +kernel
theorem dX2_pointRun_38 : decode cX2_pointRun 38 = .ok (.aload_n 0, 1) := by decide +kernel
theorem dX2_pointRun_39 : decode cX2_pointRun 39 = .ok (.getfield 27, 3) := by decide +kernel
theorem dX2_pointRun_42 : decode cX2_pointRun 42 = .ok (.ireturn, 1) := by decide +kernel
theorem dX2_digitsIn_0 : decode cX2_digitsIn 0 = .ok (.iconst 0, 1) := by decide +kernel
theorem dX2_digitsIn_1 : decode cX2_digitsIn 1 = .ok (.istore_n 3, 1) := by decide +kernel
theorem dX2_digitsIn_2 : decode cX2_digitsIn 2 = .ok (.iload_n 1, 1) := by decide +kernel
theorem dX2_digitsIn_3 : decode cX2_digitsIn 3 = .ok (.iconst 0, 1) := by decide +kernel
theorem dX2_digitsIn_4 : decode cX2_digitsIn 4 = .ok (.invokestatic 88, 3) := by decide +kernel
theorem dX2_digitsIn_7 : decode cX2_digitsIn 7 = .ok (.istore 4, 2) := by decide +kernel
theorem dX2_digitsIn_9 : decode cX2_digitsIn 9 = .ok (.iload 4, 2) := by decide +kernel
theorem dX2_digitsIn_11 : decode cX2_digitsIn 11 = .ok (.iload_n 2, 1) := by decide +kernel
theorem dX2_digitsIn_12 : decode cX2_digitsIn 12 = .ok (.if_icmp .ge 35, 3) := by decide +kernel
theorem dX2_digitsIn_15 : decode cX2_digitsIn 15 = .ok (.iload 4, 2) := by decide +kernel
theorem dX2_digitsIn_17 : decode cX2_digitsIn 17 = .ok (.aload_n 0, 1) := by decide +kernel
theorem dX2_digitsIn_18 : decode cX2_digitsIn 18 = .ok (.getfield 27, 3) := by decide +kernel
theorem dX2_digitsIn_21 : decode cX2_digitsIn 21 = .ok (.if_icmp .ge 26, 3) := by decide +kernel
theorem dX2_digitsIn_24 : decode cX2_digitsIn 24 = .ok (.iload 4, 2) := by decide +kernel
theorem dX2_digitsIn_26 : decode cX2_digitsIn 26 = .ok (.bipush 80, 2) := by decide +kernel
theorem dX2_digitsIn_28 : decode cX2_digitsIn 28 = .ok (.if_icmp .ge 19, 3) := by decide +kernel
theorem dX2_digitsIn_31 : decode cX2_digitsIn 31 = .ok (.iload_n 3, 1) := by decide +kernel
theorem dX2_digitsIn_32 : decode cX2_digitsIn 32 = .ok (.aload_n 0, 1) := by decide +kernel
theorem dX2_digitsIn_33 : decode cX2_digitsIn 33 = .ok (.getfield 24, 3) := by decide +kernel
theorem dX2_digitsIn_36 : decode cX2_digitsIn 36 = .ok (.iload 4, 2) := by decide +kernel
theorem dX2_digitsIn_38 : decode cX2_digitsIn 38 = .ok (.iaload, 1) := by decide +kernel
theorem dX2_digitsIn_39 : decode cX2_digitsIn 39 = .ok (.iadd, 1) := by decide +kernel
theorem dX2_digitsIn_40 : decode cX2_digitsIn 40 = .ok (.istore_n 3, 1) := by decide +kernel
theorem dX2_digitsIn_41 : decode cX2_digitsIn 41 = .ok (.iinc 4 1, 3) := by decide +kernel
theorem dX2_digitsIn_44 : decode cX2_digitsIn 44 = .ok (.goto (-35), 3) := by decide +kernel
theorem dX2_digitsIn_47 : decode cX2_digitsIn 47 = .ok (.iload_n 3, 1) := by decide +kernel
theorem dX2_digitsIn_48 : decode cX2_digitsIn 48 = .ok (.ireturn, 1) := by decide +kernel
set_option maxRecDepth 20000 in
theorem ggX2_allSignsCounted_X4_signsCounted : GoodIn wsX2_allSignsCounted wsX4_signsCounted := goodIn_r _ [6, 7, 8, 5, 9] (by decide +kernel) (by decide +kernel)
set_option maxRecDepth 20000 in
theorem gX2_allSignsCounted_X4_signsCounted_n85 : GoodIn wsX2_allSignsCounted (wsX4_signsCounted) := ggX2_allSignsCounted_X4_signsCounted
theorem dX2_allSignsCounted_0 : decode cX2_allSignsCounted 0 = .ok (.iconst 0, 1) := by decide +kernel
theorem dX2_allSignsCounted_1 : decode cX2_allSignsCounted 1 = .ok (.istore_n 1, 1) := by decide +kernel
theorem dX2_allSignsCounted_2 : decode cX2_allSignsCounted 2 = .ok (.iconst 0, 1) := by decide +kernel
theorem dX2_allSignsCounted_3 : decode cX2_allSignsCounted 3 = .ok (.istore_n 2, 1) := by decide +kernel
theorem dX2_allSignsCounted_4 : decode cX2_allSignsCounted 4 = .ok (.iload_n 2, 1) := by decide +kernel
theorem dX2_allSignsCounted_5 : decode cX2_allSignsCounted 5 = .ok (.aload_n 0, 1) := by decide +kernel
theorem dX2_allSignsCounted_6 : decode cX2_allSignsCounted 6 = .ok (.getfield 27, 3) := by decide +kernel
theorem dX2_allSignsCounted_9 : decode cX2_allSignsCounted 9 = .ok (.if_icmp .ge 33, 3) := by decide +kernel
theorem dX2_allSignsCounted_12 : decode cX2_allSignsCounted 12 = .ok (.iload_n 2, 1) := by decide +kernel
theorem dX2_allSignsCounted_13 : decode cX2_allSignsCounted 13 = .ok (.bipush 80, 2) := by decide +kernel
theorem dX2_allSignsCounted_15 : decode cX2_allSignsCounted 15 = .ok (.if_icmp .ge 27, 3) := by decide +kernel
theorem dX2_allSignsCounted_18 : decode cX2_allSignsCounted 18 = .ok (.iload_n 1, 1) := by decide +kernel
theorem dX2_allSignsCounted_19 : decode cX2_allSignsCounted 19 = .ok (.aload_n 0, 1) := by decide +kernel
theorem dX2_allSignsCounted_20 : decode cX2_allSignsCounted 20 = .ok (.getfield 9, 3) := by decide +kernel
theorem dX2_allSignsCounted_23 : decode cX2_allSignsCounted 23 = .ok (.iload_n 2, 1) := by decide +kernel
theorem dX2_allSignsCounted_24 : decode cX2_allSignsCounted 24 = .ok (.iaload, 1) := by decide +kernel
theorem dX2_allSignsCounted_25 : decode cX2_allSignsCounted 25 = .ok (.aload_n 0, 1) := by decide +kernel
theorem dX2_allSignsCounted_26 : decode cX2_allSignsCounted 26 = .ok (.getfield 15, 3) := by decide +kernel
theorem dX2_allSignsCounted_29 : decode cX2_allSignsCounted 29 = .ok (.iload_n 2, 1) := by decide +kernel
theorem dX2_allSignsCounted_30 : decode cX2_allSignsCounted 30 = .ok (.iaload, 1) := by decide +kernel
theorem dX2_allSignsCounted_31 : decode cX2_allSignsCounted 31 = .ok (.invokestatic 85, 3) := by decide +kernel
theorem dX2_allSignsCounted_34 : decode cX2_allSignsCounted 34 = .ok (.iadd, 1) := by decide +kernel
theorem dX2_allSignsCounted_35 : decode cX2_allSignsCounted 35 = .ok (.istore_n 1, 1) := by decide +kernel
theorem dX2_allSignsCounted_36 : decode cX2_allSignsCounted 36 = .ok (.iinc 2 1, 3) := by decide +kernel
theorem dX2_allSignsCounted_39 : decode cX2_allSignsCounted 39 = .ok (.goto (-35), 3) := by decide +kernel
theorem dX2_allSignsCounted_42 : decode cX2_allSignsCounted 42 = .ok (.iload_n 1, 1) := by decide +kernel
theorem dX2_allSignsCounted_43 : decode cX2_allSignsCounted 43 = .ok (.ireturn, 1) := by decide +kernel
set_option maxRecDepth 20000 in
theorem ggX2_categoryOf_X4_holds : GoodIn wsX2_categoryOf wsX4_holds := goodIn_r _ [5] (by decide +kernel) (by decide +kernel)
set_option maxRecDepth 20000 in
theorem gX2_categoryOf_X4_holds_n67 : GoodIn wsX2_categoryOf (wsX4_holds) := ggX2_categoryOf_X4_holds
set_option maxRecDepth 20000 in
theorem ggX2_categoryOf_X2_standsAhead : GoodIn wsX2_categoryOf wsX2_standsAhead := goodIn_r _ [10, 11, 12, 13, 14, 15, 16, 17] (by decide +kernel) (by decide +kernel)
set_option maxRecDepth 20000 in
theorem gX2_categoryOf_X2_standsAhead : GoodIn wsX2_categoryOf (wsV RX2 71 RX2 yX2_standsAhead wsX2_standsAhead) := goodIn_app (goodIn_of _ (by decide +kernel)) ggX2_categoryOf_X2_standsAhead
theorem dX2_categoryOf_0 : decode cX2_categoryOf 0 = .ok (.iload_n 1, 1) := by decide +kernel
theorem dX2_categoryOf_1 : decode cX2_categoryOf 1 = .ok (.bipush 18, 2) := by decide +kernel
theorem dX2_categoryOf_3 : decode cX2_categoryOf 3 = .ok (.invokestatic 67, 3) := by decide +kernel
theorem dX2_categoryOf_6 : decode cX2_categoryOf 6 = .ok (.ifCond .eq 18, 3) := by decide +kernel
theorem dX2_categoryOf_9 : decode cX2_categoryOf 9 = .ok (.iload_n 1, 1) := by decide +kernel
theorem dX2_categoryOf_10 : decode cX2_categoryOf 10 = .ok (.iconst 0, 1) := by decide +kernel
theorem dX2_categoryOf_11 : decode cX2_categoryOf 11 = .ok (.invokestatic 67, 3) := by decide +kernel
theorem dX2_categoryOf_14 : decode cX2_categoryOf 14 = .ok (.ifCond .eq 8, 3) := by decide +kernel
theorem dX2_categoryOf_17 : decode cX2_categoryOf 17 = .ok (.bipush 6, 2) := by decide +kernel
theorem dX2_categoryOf_19 : decode cX2_categoryOf 19 = .ok (.goto 4, 3) := by decide +kernel
theorem dX2_categoryOf_22 : decode cX2_categoryOf 22 = .ok (.iconst 5, 1) := by decide +kernel
theorem dX2_categoryOf_23 : decode cX2_categoryOf 23 = .ok (.ireturn, 1) := by decide +kernel
theorem dX2_categoryOf_24 : decode cX2_categoryOf 24 = .ok (.iload_n 1, 1) := by decide +kernel
theorem dX2_categoryOf_25 : decode cX2_categoryOf 25 = .ok (.bipush 13, 2) := by decide +kernel
theorem dX2_categoryOf_27 : decode cX2_categoryOf 27 = .ok (.invokestatic 67, 3) := by decide +kernel
theorem dX2_categoryOf_30 : decode cX2_categoryOf 30 = .ok (.ifCond .eq 45, 3) := by decide +kernel
theorem dX2_categoryOf_33 : decode cX2_categoryOf 33 = .ok (.iload_n 1, 1) := by decide +kernel
theorem dX2_categoryOf_34 : decode cX2_categoryOf 34 = .ok (.iconst 0, 1) := by decide +kernel
theorem dX2_categoryOf_35 : decode cX2_categoryOf 35 = .ok (.invokestatic 67, 3) := by decide +kernel
theorem dX2_categoryOf_38 : decode cX2_categoryOf 38 = .ok (.ifCond .eq 5, 3) := by decide +kernel
theorem dX2_categoryOf_41 : decode cX2_categoryOf 41 = .ok (.iconst 2, 1) := by decide +kernel
theorem dX2_categoryOf_42 : decode cX2_categoryOf 42 = .ok (.ireturn, 1) := by decide +kernel
theorem dX2_categoryOf_43 : decode cX2_categoryOf 43 = .ok (.aload_n 0, 1) := by decide +kernel
theorem dX2_categoryOf_44 : decode cX2_categoryOf 44 = .ok (.bipush 88, 2) := by decide +kernel
theorem dX2_categoryOf_46 : decode cX2_categoryOf 46 = .ok (.aload_n 0, 1) := by decide +kernel
theorem dX2_categoryOf_47 : decode cX2_categoryOf 47 = .ok (.getfield 27, 3) := by decide +kernel
theorem dX2_categoryOf_50 : decode cX2_categoryOf 50 = .ok (.invokevirtual 71, 3) := by decide +kernel
theorem dX2_categoryOf_53 : decode cX2_categoryOf 53 = .ok (.ifCond .ne 16, 3) := by decide +kernel
theorem dX2_categoryOf_56 : decode cX2_categoryOf 56 = .ok (.aload_n 0, 1) := by decide +kernel
theorem dX2_categoryOf_57 : decode cX2_categoryOf 57 = .ok (.bipush 57, 2) := by decide +kernel
theorem dX2_categoryOf_59 : decode cX2_categoryOf 59 = .ok (.aload_n 0, 1) := by decide +kernel
theorem dX2_categoryOf_60 : decode cX2_categoryOf 60 = .ok (.getfield 27, 3) := by decide +kernel
theorem dX2_categoryOf_63 : decode cX2_categoryOf 63 = .ok (.invokevirtual 71, 3) := by decide +kernel
theorem dX2_categoryOf_66 : decode cX2_categoryOf 66 = .ok (.ifCond .eq 7, 3) := by decide +kernel
theorem dX2_categoryOf_69 : decode cX2_categoryOf 69 = .ok (.iconst 1, 1) := by decide +kernel
theorem dX2_categoryOf_70 : decode cX2_categoryOf 70 = .ok (.goto 4, 3) := by decide +kernel
theorem dX2_categoryOf_73 : decode cX2_categoryOf 73 = .ok (.iconst 0, 1) := by decide +kernel
theorem dX2_categoryOf_74 : decode cX2_categoryOf 74 = .ok (.ireturn, 1) := by decide +kernel
theorem dX2_categoryOf_75 : decode cX2_categoryOf 75 = .ok (.iload_n 1, 1) := by decide +kernel
theorem dX2_categoryOf_76 : decode cX2_categoryOf 76 = .ok (.ldc 93, 2) := by decide +kernel
theorem dX2_categoryOf_78 : decode cX2_categoryOf 78 = .ok (.iand, 1) := by decide +kernel
theorem dX2_categoryOf_79 : decode cX2_categoryOf 79 = .ok (.ifCond .ne 7, 3) := by decide +kernel
theorem dX2_categoryOf_82 : decode cX2_categoryOf 82 = .ok (.iconst 3, 1) := by decide +kernel
theorem dX2_categoryOf_83 : decode cX2_categoryOf 83 = .ok (.goto 4, 3) := by decide +kernel
theorem dX2_categoryOf_86 : decode cX2_categoryOf 86 = .ok (.iconst 4, 1) := by decide +kernel
theorem dX2_categoryOf_87 : decode cX2_categoryOf 87 = .ok (.ireturn, 1) := by decide +kernel
end
section
theorem dX3_init_0 : decode cX3_init 0 = .ok (.aload_n 0, 1) := by decide +kernel
theorem dX3_init_1 : decode cX3_init 1 = .ok (.invokespecial 3, 3) := by decide +kernel
theorem dX3_init_4 : decode cX3_init 4 = .ok (.aload_n 0, 1) := by decide +kernel
theorem dX3_init_5 : decode cX3_init 5 = .ok (.bipush 80, 2) := by decide +kernel
theorem dX3_init_7 : decode cX3_init 7 = .ok (.newarray .int, 2) := by decide +kernel
theorem dX3_init_9 : decode cX3_init 9 = .ok (.putfield 9, 3) := by decide +kernel
theorem dX3_init_12 : decode cX3_init 12 = .ok (.aload_n 0, 1) := by decide +kernel
theorem dX3_init_13 : decode cX3_init 13 = .ok (.iconst 0, 1) := by decide +kernel
theorem dX3_init_14 : decode cX3_init 14 = .ok (.putfield 15, 3) := by decide +kernel
theorem dX3_init_17 : decode cX3_init 17 = .ok (.return_, 1) := by decide +kernel
theorem dX3_append_0 : decode cX3_append 0 = .ok (.aload_n 0, 1) := by decide +kernel
theorem dX3_append_1 : decode cX3_append 1 = .ok (.getfield 15, 3) := by decide +kernel
theorem dX3_append_4 : decode cX3_append 4 = .ok (.ifCond .lt 12, 3) := by decide +kernel
theorem dX3_append_7 : decode cX3_append 7 = .ok (.aload_n 0, 1) := by decide +kernel
theorem dX3_append_8 : decode cX3_append 8 = .ok (.getfield 15, 3) := by decide +kernel
theorem dX3_append_11 : decode cX3_append 11 = .ok (.bipush 80, 2) := by decide +kernel
theorem dX3_append_13 : decode cX3_append 13 = .ok (.if_icmp .lt 4, 3) := by decide +kernel
theorem dX3_append_16 : decode cX3_append 16 = .ok (.return_, 1) := by decide +kernel
theorem dX3_append_17 : decode cX3_append 17 = .ok (.aload_n 0, 1) := by decide +kernel
theorem dX3_append_18 : decode cX3_append 18 = .ok (.getfield 9, 3) := by decide +kernel
theorem dX3_append_21 : decode cX3_append 21 = .ok (.aload_n 0, 1) := by decide +kernel
theorem dX3_append_22 : decode cX3_append 22 = .ok (.getfield 15, 3) := by decide +kernel
theorem dX3_append_25 : decode cX3_append 25 = .ok (.iload_n 1, 1) := by decide +kernel
theorem dX3_append_26 : decode cX3_append 26 = .ok (.iconst 1, 1) := by decide +kernel
theorem dX3_append_27 : decode cX3_append 27 = .ok (.if_icmp .lt 13, 3) := by decide +kernel
theorem dX3_append_30 : decode cX3_append 30 = .ok (.iload_n 1, 1) := by decide +kernel
theorem dX3_append_31 : decode cX3_append 31 = .ok (.bipush 126, 2) := by decide +kernel
theorem dX3_append_33 : decode cX3_append 33 = .ok (.if_icmp .gt 7, 3) := by decide +kernel
theorem dX3_append_36 : decode cX3_append 36 = .ok (.iload_n 1, 1) := by decide +kernel
theorem dX3_append_37 : decode cX3_append 37 = .ok (.goto 4, 3) := by decide +kernel
theorem dX3_append_40 : decode cX3_append 40 = .ok (.iconst 0, 1) := by decide +kernel
theorem dX3_append_41 : decode cX3_append 41 = .ok (.iastore, 1) := by decide +kernel
theorem dX3_append_42 : decode cX3_append 42 = .ok (.aload_n 0, 1) := by decide +kernel
theorem dX3_append_43 : decode cX3_append 43 = .ok (.dup, 1) := by decide +kernel
theorem dX3_append_44 : decode cX3_append 44 = .ok (.getfield 15, 3) := by decide +kernel
theorem dX3_append_47 : decode cX3_append 47 = .ok (.iconst 1, 1) := by decide +kernel
theorem dX3_append_48 : decode cX3_append 48 = .ok (.iadd, 1) := by decide +kernel
theorem dX3_append_49 : decode cX3_append 49 = .ok (.putfield 15, 3) := by decide +kernel
theorem dX3_append_52 : decode cX3_append 52 = .ok (.return_, 1) := by decide +kernel
theorem dX3_clear_0 : decode cX3_clear 0 = .ok (.aload_n 0, 1) := by decide +kernel
theorem dX3_clear_1 : decode cX3_clear 1 = .ok (.iconst 0, 1) := by decide +kernel
theorem dX3_clear_2 : decode cX3_clear 2 = .ok (.putfield 15, 3) := by decide +kernel
theorem dX3_clear_5 : decode cX3_clear 5 = .ok (.return_, 1) := by decide +kernel
theorem dX3_characterAt_0 : decode cX3_characterAt 0 = .ok (.iload_n 1, 1) := by decide +kernel
theorem dX3_characterAt_1 : decode cX3_characterAt 1 = .ok (.ifCond .lt 17, 3) := by decide +kernel
theorem dX3_characterAt_4 : decode cX3_characterAt 4 = .ok (.iload_n 1, 1) := by decide +kernel
theorem dX3_characterAt_5 : decode cX3_characterAt 5 = .ok (.aload_n 0, 1) := by decide +kernel
theorem dX3_characterAt_6 : decode cX3_characterAt 6 = .ok (.getfield 15, 3) := by decide +kernel
theorem dX3_characterAt_9 : decode cX3_characterAt 9 = .ok (.if_icmp .ge 9, 3) := by decide +kernel
theorem dX3_characterAt_12 : decode cX3_characterAt 12 = .ok (.iload_n 1, 1) := by decide +kernel
theorem dX3_characterAt_13 : decode cX3_characterAt 13 = .ok (.bipush 80, 2) := by decide +kernel
theorem dX3_characterAt_15 : decode cX3_characterAt 15 = .ok (.if_icmp .lt 7, 3) := by decide +kernel
theorem dX3_characterAt_18 : decode cX3_characterAt 18 = .ok (.iconst 0, 1) := by decide +kernel
theorem dX3_characterAt_19 : decode cX3_characterAt 19 = .ok (.goto 9, 3) := by decide +kernel
theorem dX3_characterAt_22 : decode cX3_characterAt 22 = .ok (.aload_n 0, 1) := by decide +kernel
theorem dX3_characterAt_23 : decode cX3_characterAt 23 = .ok (.getfield 9, 3) := by decide +kernel
theorem dX3_characterAt_26 : decode cX3_characterAt 26 = .ok (.iload_n 1, 1) := by decide +kernel
theorem dX3_characterAt_27 : decode cX3_characterAt 27 = .ok (.iaload, 1) := by decide +kernel
theorem dX3_characterAt_28 : decode cX3_characterAt 28 = .ok (.ireturn, 1) := by decide +kernel
set_option maxRecDepth 20000 in
theorem ggX3_signAt_X3_characterAt : GoodIn wsX3_signAt wsX3_characterAt := goodIn_r _ [5, 6, 7, 100, 101] (by decide +kernel) (by decide +kernel)
set_option maxRecDepth 20000 in
theorem gX3_signAt_X3_characterAt : GoodIn wsX3_signAt (wsV RX3 19 RX3 yX3_characterAt wsX3_characterAt) := goodIn_app (goodIn_of _ (by decide +kernel)) ggX3_signAt_X3_characterAt
set_option maxRecDepth 20000 in
theorem ggX3_signAt_X4_greatOf : GoodIn wsX3_signAt wsX4_greatOf := goodIn_r _ [10] (by decide +kernel) (by decide +kernel)
set_option maxRecDepth 20000 in
theorem gX3_signAt_X4_greatOf_n23 : GoodIn wsX3_signAt (wsX4_greatOf) := ggX3_signAt_X4_greatOf
set_option maxRecDepth 20000 in
theorem ggX3_signAt_J0_indexOf_0f7a4 : GoodIn wsX3_signAt wsJ0_indexOf_0f7a4 := goodIn_r _ [15, 16, 17, 18, 14, 19, 20, 21, 22, 23, 24, 25, 26, 27, 28, 29, 30, 31, 32, 33, 34, 35, 36, 37, 38, 39, 40, 41, 42, 43, 44, 45, 46, 47, 48, 49, 50, 51, 52, 53, 54, 55, 56, 57, 58, 59, 60, 61, 62, 63, 64, 65, 66, 67, 68, 69, 70, 71, 72, 73, 74, 75, 76, 77, 78, 79, 80, 81, 82, 83, 84, 85, 86, 87, 88, 89, 90, 91, 92, 93, 94, 95, 96, 97, 98, 99] (by decide +kernel) (by decide +kernel)
set_option maxRecDepth 20000 in
theorem gX3_signAt_J0_indexOf_0f7a4 : GoodIn wsX3_signAt (wsV RX3 28 RJ0 yJ0_indexOf_0f7a4 wsJ0_indexOf_0f7a4) := goodIn_app (goodIn_of _ (by decide +kernel)) ggX3_signAt_J0_indexOf_0f7a4
theorem dX3_signAt_0 : decode cX3_signAt 0 = .ok (.aload_n 0, 1) := by decide +kernel
theorem dX3_signAt_1 : decode cX3_signAt 1 = .ok (.iload_n 1, 1) := by decide +kernel
theorem dX3_signAt_2 : decode cX3_signAt 2 = .ok (.invokevirtual 19, 3) := by decide +kernel
theorem dX3_signAt_5 : decode cX3_signAt 5 = .ok (.istore_n 3, 1) := by decide +kernel
theorem dX3_signAt_6 : decode cX3_signAt 6 = .ok (.iload_n 3, 1) := by decide +kernel
theorem dX3_signAt_7 : decode cX3_signAt 7 = .ok (.iload_n 2, 1) := by decide +kernel
theorem dX3_signAt_8 : decode cX3_signAt 8 = .ok (.if_icmp .ne 6, 3) := by decide +kernel
theorem dX3_signAt_11 : decode cX3_signAt 11 = .ok (.bipush 36, 2) := by decide +kernel
theorem dX3_signAt_13 : decode cX3_signAt 13 = .ok (.ireturn, 1) := by decide +kernel
theorem dX3_signAt_14 : decode cX3_signAt 14 = .ok (.iload_n 3, 1) := by decide +kernel
theorem dX3_signAt_15 : decode cX3_signAt 15 = .ok (.invokestatic 23, 3) := by decide +kernel
theorem dX3_signAt_18 : decode cX3_signAt 18 = .ok (.istore 4, 2) := by decide +kernel
theorem dX3_signAt_20 : decode cX3_signAt 20 = .ok (.aload_n 0, 1) := by decide +kernel
theorem dX3_signAt_21 : decode cX3_signAt 21 = .ok (.iload_n 1, 1) := by decide +kernel
theorem dX3_signAt_22 : decode cX3_signAt 22 = .ok (.iconst 1, 1) := by decide +kernel
theorem dX3_signAt_23 : decode cX3_signAt 23 = .ok (.iadd, 1) := by decide +kernel
theorem dX3_signAt_24 : decode cX3_signAt 24 = .ok (.invokevirtual 19, 3) := by decide +kernel
theorem dX3_signAt_27 : decode cX3_signAt 27 = .ok (.invokestatic 23, 3) := by decide +kernel
theorem dX3_signAt_30 : decode cX3_signAt 30 = .ok (.istore 5, 2) := by decide +kernel
theorem dX3_signAt_32 : decode cX3_signAt 32 = .ok (.iload 4, 2) := by decide +kernel
theorem dX3_signAt_34 : decode cX3_signAt 34 = .ok (.bipush 67, 2) := by decide +kernel
theorem dX3_signAt_36 : decode cX3_signAt 36 = .ok (.if_icmp .ne 10, 3) := by decide +kernel
theorem dX3_signAt_39 : decode cX3_signAt 39 = .ok (.iload 5, 2) := by decide +kernel
theorem dX3_signAt_41 : decode cX3_signAt 41 = .ok (.bipush 82, 2) := by decide +kernel
theorem dX3_signAt_43 : decode cX3_signAt 43 = .ok (.if_icmp .eq 17, 3) := by decide +kernel
theorem dX3_signAt_46 : decode cX3_signAt 46 = .ok (.iload 4, 2) := by decide +kernel
theorem dX3_signAt_48 : decode cX3_signAt 48 = .ok (.bipush 68, 2) := by decide +kernel
theorem dX3_signAt_50 : decode cX3_signAt 50 = .ok (.if_icmp .ne 13, 3) := by decide +kernel
theorem dX3_signAt_53 : decode cX3_signAt 53 = .ok (.iload 5, 2) := by decide +kernel
theorem dX3_signAt_55 : decode cX3_signAt 55 = .ok (.bipush 66, 2) := by decide +kernel
theorem dX3_signAt_57 : decode cX3_signAt 57 = .ok (.if_icmp .ne 6, 3) := by decide +kernel
theorem dX3_signAt_60 : decode cX3_signAt 60 = .ok (.iload 4, 2) := by decide +kernel
theorem dX3_signAt_62 : decode cX3_signAt 62 = .ok (.ireturn, 1) := by decide +kernel
theorem dX3_signAt_63 : decode cX3_signAt 63 = .ok (.ldc 26, 2) := by decide +kernel
theorem dX3_signAt_65 : decode cX3_signAt 65 = .ok (.iload 4, 2) := by decide +kernel
theorem dX3_signAt_67 : decode cX3_signAt 67 = .ok (.i2c, 1) := by decide +kernel
theorem dX3_signAt_68 : decode cX3_signAt 68 = .ok (.invokevirtual 28, 3) := by decide +kernel
theorem dX3_signAt_71 : decode cX3_signAt 71 = .ok (.ifCond .ge 7, 3) := by decide +kernel
theorem dX3_signAt_74 : decode cX3_signAt 74 = .ok (.iconst (-1), 1) := by decide +kernel
theorem dX3_signAt_75 : decode cX3_signAt 75 = .ok (.goto 5, 3) := by decide +kernel
theorem dX3_signAt_78 : decode cX3_signAt 78 = .ok (.iload 4, 2) := by decide +kernel
theorem dX3_signAt_80 : decode cX3_signAt 80 = .ok (.ireturn, 1) := by decide +kernel
set_option maxRecDepth 20000 in
theorem ggX3_closeOf_X3_characterAt : GoodIn wsX3_closeOf wsX3_characterAt := goodIn_r _ [5, 6, 7, 8, 9] (by decide +kernel) (by decide +kernel)
set_option maxRecDepth 20000 in
theorem gX3_closeOf_X3_characterAt : GoodIn wsX3_closeOf (wsV RX3 19 RX3 yX3_characterAt wsX3_characterAt) := goodIn_app (goodIn_of _ (by decide +kernel)) ggX3_closeOf_X3_characterAt
theorem dX3_closeOf_0 : decode cX3_closeOf 0 = .ok (.iload_n 1, 1) := by decide +kernel
theorem dX3_closeOf_1 : decode cX3_closeOf 1 = .ok (.iconst 1, 1) := by decide +kernel
theorem dX3_closeOf_2 : decode cX3_closeOf 2 = .ok (.iadd, 1) := by decide +kernel
theorem dX3_closeOf_3 : decode cX3_closeOf 3 = .ok (.istore_n 2, 1) := by decide +kernel
theorem dX3_closeOf_4 : decode cX3_closeOf 4 = .ok (.iload_n 2, 1) := by decide +kernel
theorem dX3_closeOf_5 : decode cX3_closeOf 5 = .ok (.iload_n 1, 1) := by decide +kernel
theorem dX3_closeOf_6 : decode cX3_closeOf 6 = .ok (.iconst 1, 1) := by decide +kernel
theorem dX3_closeOf_7 : decode cX3_closeOf 7 = .ok (.iadd, 1) := by decide +kernel
theorem dX3_closeOf_8 : decode cX3_closeOf 8 = .ok (.iconst 4, 1) := by decide +kernel
theorem dX3_closeOf_9 : decode cX3_closeOf 9 = .ok (.iadd, 1) := by decide +kernel
theorem dX3_closeOf_10 : decode cX3_closeOf 10 = .ok (.if_icmp .gt 37, 3) := by decide +kernel
theorem dX3_closeOf_13 : decode cX3_closeOf 13 = .ok (.aload_n 0, 1) := by decide +kernel
theorem dX3_closeOf_14 : decode cX3_closeOf 14 = .ok (.iload_n 2, 1) := by decide +kernel
theorem dX3_closeOf_15 : decode cX3_closeOf 15 = .ok (.invokevirtual 19, 3) := by decide +kernel
theorem dX3_closeOf_18 : decode cX3_closeOf 18 = .ok (.istore_n 3, 1) := by decide +kernel
theorem dX3_closeOf_19 : decode cX3_closeOf 19 = .ok (.iload_n 3, 1) := by decide +kernel
theorem dX3_closeOf_20 : decode cX3_closeOf 20 = .ok (.bipush 41, 2) := by decide +kernel
theorem dX3_closeOf_22 : decode cX3_closeOf 22 = .ok (.if_icmp .ne 5, 3) := by decide +kernel
theorem dX3_closeOf_25 : decode cX3_closeOf 25 = .ok (.iload_n 2, 1) := by decide +kernel
theorem dX3_closeOf_26 : decode cX3_closeOf 26 = .ok (.ireturn, 1) := by decide +kernel
theorem dX3_closeOf_27 : decode cX3_closeOf 27 = .ok (.iload_n 3, 1) := by decide +kernel
theorem dX3_closeOf_28 : decode cX3_closeOf 28 = .ok (.bipush 48, 2) := by decide +kernel
theorem dX3_closeOf_30 : decode cX3_closeOf 30 = .ok (.if_icmp .lt 9, 3) := by decide +kernel
theorem dX3_closeOf_33 : decode cX3_closeOf 33 = .ok (.iload_n 3, 1) := by decide +kernel
theorem dX3_closeOf_34 : decode cX3_closeOf 34 = .ok (.bipush 57, 2) := by decide +kernel
theorem dX3_closeOf_36 : decode cX3_closeOf 36 = .ok (.if_icmp .le 5, 3) := by decide +kernel
theorem dX3_closeOf_39 : decode cX3_closeOf 39 = .ok (.iconst (-1), 1) := by decide +kernel
theorem dX3_closeOf_40 : decode cX3_closeOf 40 = .ok (.ireturn, 1) := by decide +kernel
theorem dX3_closeOf_41 : decode cX3_closeOf 41 = .ok (.iinc 2 1, 3) := by decide +kernel
theorem dX3_closeOf_44 : decode cX3_closeOf 44 = .ok (.goto (-40), 3) := by decide +kernel
theorem dX3_closeOf_47 : decode cX3_closeOf 47 = .ok (.iconst (-1), 1) := by decide +kernel
theorem dX3_closeOf_48 : decode cX3_closeOf 48 = .ok (.ireturn, 1) := by decide +kernel
set_option maxRecDepth 20000 in
theorem ggX3_numberBetween_X3_characterAt : GoodIn wsX3_numberBetween wsX3_characterAt := goodIn_r _ [5, 6, 7, 8, 9] (by decide +kernel) (by decide +kernel)
set_option maxRecDepth 20000 in
theorem gX3_numberBetween_X3_characterAt : GoodIn wsX3_numberBetween (wsV RX3 19 RX3 yX3_characterAt wsX3_characterAt) := goodIn_app (goodIn_of _ (by decide +kernel)) ggX3_numberBetween_X3_characterAt
theorem dX3_numberBetween_0 : decode cX3_numberBetween 0 = .ok (.iconst 0, 1) := by decide +kernel
theorem dX3_numberBetween_1 : decode cX3_numberBetween 1 = .ok (.istore_n 3, 1) := by decide +kernel
theorem dX3_numberBetween_2 : decode cX3_numberBetween 2 = .ok (.iload_n 1, 1) := by decide +kernel
theorem dX3_numberBetween_3 : decode cX3_numberBetween 3 = .ok (.iconst 1, 1) := by decide +kernel
theorem dX3_numberBetween_4 : decode cX3_numberBetween 4 = .ok (.iadd, 1) := by decide +kernel
theorem dX3_numberBetween_5 : decode cX3_numberBetween 5 = .ok (.istore 4, 2) := by decide +kernel
theorem dX3_numberBetween_7 : decode cX3_numberBetween 7 = .ok (.iload 4, 2) := by decide +kernel
theorem dX3_numberBetween_9 : decode cX3_numberBetween 9 = .ok (.iload_n 2, 1) := by decide +kernel
theorem dX3_numberBetween_10 : decode cX3_numberBetween 10 = .ok (.if_icmp .ge 24, 3) := by decide +kernel
theorem dX3_numberBetween_13 : decode cX3_numberBetween 13 = .ok (.iload_n 3, 1) := by decide +kernel
theorem dX3_numberBetween_14 : decode cX3_numberBetween 14 = .ok (.bipush 10, 2) := by decide +kernel
theorem dX3_numberBetween_16 : decode cX3_numberBetween 16 = .ok (.imul, 1) := by decide +kernel
theorem dX3_numberBetween_17 : decode cX3_numberBetween 17 = .ok (.aload_n 0, 1) := by decide +kernel
theorem dX3_numberBetween_18 : decode cX3_numberBetween 18 = .ok (.iload 4, 2) := by decide +kernel
theorem dX3_numberBetween_20 : decode cX3_numberBetween 20 = .ok (.invokevirtual 19, 3) := by decide +kernel
theorem dX3_numberBetween_23 : decode cX3_numberBetween 23 = .ok (.iadd, 1) := by decide +kernel
theorem dX3_numberBetween_24 : decode cX3_numberBetween 24 = .ok (.bipush 48, 2) := by decide +kernel
theorem dX3_numberBetween_26 : decode cX3_numberBetween 26 = .ok (.isub, 1) := by decide +kernel
theorem dX3_numberBetween_27 : decode cX3_numberBetween 27 = .ok (.istore_n 3, 1) := by decide +kernel
theorem dX3_numberBetween_28 : decode cX3_numberBetween 28 = .ok (.iinc 4 1, 3) := by decide +kernel
theorem dX3_numberBetween_31 : decode cX3_numberBetween 31 = .ok (.goto (-24), 3) := by decide +kernel
theorem dX3_numberBetween_34 : decode cX3_numberBetween 34 = .ok (.iload_n 3, 1) := by decide +kernel
theorem dX3_numberBetween_35 : decode cX3_numberBetween 35 = .ok (.ireturn, 1) := by decide +kernel
end
section
set_option maxRecDepth 20000 in
theorem ggX4_init_X3_init : GoodIn wsX4_init wsX3_init := goodIn_r _ [18, 19, 2, 3, 20, 21, 22, 32, 33] (by decide +kernel) (by decide +kernel)
set_option maxRecDepth 20000 in
theorem gX4_init_X3_init_n11 : GoodIn wsX4_init (wsX3_init) := ggX4_init_X3_init
set_option maxRecDepth 20000 in
theorem ggX4_init_X2_init : GoodIn wsX4_init wsX2_init := goodIn_r _ [24, 25, 2, 3, 20, 26, 27, 28, 29, 30, 31, 40, 41, 42, 43, 44, 45] (by decide +kernel) (by decide +kernel)
set_option maxRecDepth 20000 in
theorem gX4_init_X2_init_n18 : GoodIn wsX4_init (wsX2_init) := ggX4_init_X2_init
theorem dX4_init_0 : decode cX4_init 0 = .ok (.aload_n 0, 1) := by decide +kernel
theorem dX4_init_1 : decode cX4_init 1 = .ok (.invokespecial 3, 3) := by decide +kernel
theorem dX4_init_4 : decode cX4_init 4 = .ok (.aload_n 0, 1) := by decide +kernel
theorem dX4_init_5 : decode cX4_init 5 = .ok (.new 9, 3) := by decide +kernel
theorem dX4_init_8 : decode cX4_init 8 = .ok (.dup, 1) := by decide +kernel
theorem dX4_init_9 : decode cX4_init 9 = .ok (.invokespecial 11, 3) := by decide +kernel
theorem dX4_init_12 : decode cX4_init 12 = .ok (.putfield 12, 3) := by decide +kernel
theorem dX4_init_15 : decode cX4_init 15 = .ok (.aload_n 0, 1) := by decide +kernel
theorem dX4_init_16 : decode cX4_init 16 = .ok (.new 16, 3) := by decide +kernel
theorem dX4_init_19 : decode cX4_init 19 = .ok (.dup, 1) := by decide +kernel
theorem dX4_init_20 : decode cX4_init 20 = .ok (.invokespecial 18, 3) := by decide +kernel
theorem dX4_init_23 : decode cX4_init 23 = .ok (.putfield 19, 3) := by decide +kernel
theorem dX4_init_26 : decode cX4_init 26 = .ok (.aload_n 0, 1) := by decide +kernel
theorem dX4_init_27 : decode cX4_init 27 = .ok (.bipush 40, 2) := by decide +kernel
theorem dX4_init_29 : decode cX4_init 29 = .ok (.anewarray 23, 3) := by decide +kernel
theorem dX4_init_32 : decode cX4_init 32 = .ok (.putfield 25, 3) := by decide +kernel
theorem dX4_init_35 : decode cX4_init 35 = .ok (.aload_n 0, 1) := by decide +kernel
theorem dX4_init_36 : decode cX4_init 36 = .ok (.iconst 0, 1) := by decide +kernel
theorem dX4_init_37 : decode cX4_init 37 = .ok (.putfield 29, 3) := by decide +kernel
theorem dX4_init_40 : decode cX4_init 40 = .ok (.aload_n 0, 1) := by decide +kernel
theorem dX4_init_41 : decode cX4_init 41 = .ok (.aconst_null, 1) := by decide +kernel
theorem dX4_init_42 : decode cX4_init 42 = .ok (.putfield 33, 3) := by decide +kernel
theorem dX4_init_45 : decode cX4_init 45 = .ok (.aload_n 0, 1) := by decide +kernel
theorem dX4_init_46 : decode cX4_init 46 = .ok (.bipush 36, 2) := by decide +kernel
theorem dX4_init_48 : decode cX4_init 48 = .ok (.putfield 37, 3) := by decide +kernel
theorem dX4_init_51 : decode cX4_init 51 = .ok (.return_, 1) := by decide +kernel
set_option maxRecDepth 20000 in
theorem ggX4_sign_X3_append : GoodIn wsX4_sign wsX3_append := goodIn_r _ [6, 7, 8, 15, 16] (by decide +kernel) (by decide +kernel)
set_option maxRecDepth 20000 in
theorem gX4_sign_X3_append : GoodIn wsX4_sign (wsV RX4 40 RX3 yX3_append wsX3_append) := goodIn_app (goodIn_of _ (by decide +kernel)) ggX4_sign_X3_append
theorem dX4_sign_0 : decode cX4_sign 0 = .ok (.aload_n 0, 1) := by decide +kernel
theorem dX4_sign_1 : decode cX4_sign 1 = .ok (.getfield 12, 3) := by decide +kernel
theorem dX4_sign_4 : decode cX4_sign 4 = .ok (.iload_n 1, 1) := by decide +kernel
theorem dX4_sign_5 : decode cX4_sign 5 = .ok (.invokevirtual 40, 3) := by decide +kernel
theorem dX4_sign_8 : decode cX4_sign 8 = .ok (.return_, 1) := by decide +kernel
set_option maxRecDepth 20000 in
theorem ggX4_read_X4_firstWrongPlace : GoodIn wsX4_read wsX4_firstWrongPlace := goodIn_r _ [11, 5, 1, 6, 12, 13, 14, 15, 16, 17, 18, 19, 20, 21, 22, 23, 24, 25, 26, 27, 28, 29, 30, 10, 31, 32, 33, 34, 35, 36, 37, 38, 39, 40, 41, 42, 43, 44, 45, 46, 47, 48, 49, 50, 51, 52, 53, 54, 55, 56, 57, 58, 59, 60, 61, 62, 63, 64, 65, 66, 67, 68, 69, 70, 71, 72, 73, 74, 75, 76, 77, 78, 79, 80, 81, 82, 83, 84, 85, 86, 87, 88, 89, 90, 91, 92, 93, 94, 95, 96, 97, 98, 99, 100, 101, 102, 103, 104, 105, 106, 107, 108, 109, 110, 111, 112, 113, 114, 115, 116, 117, 118, 119, 120, 121, 122, 123, 124, 125, 126, 127, 128, 129, 130, 131, 132, 133, 134, 135, 136, 137, 138, 139, 140, 141, 142, 143, 144, 145, 146, 147, 148, 149, 150, 151, 152, 153, 154, 155, 156, 157, 158, 159, 160, 161, 162, 163, 164, 165, 166, 167, 168, 169, 170, 171, 172, 173, 174, 175, 176, 177, 178, 179, 180, 181, 182, 262, 263, 264, 265, 266, 267, 278, 279, 280, 281, 282, 283, 284, 285] (by decide +kernel) (by decide +kernel)
set_option maxRecDepth 20000 in
theorem gX4_read_X4_firstWrongPlace : GoodIn wsX4_read (wsV RX4 44 RX4 yX4_firstWrongPlace wsX4_firstWrongPlace) := goodIn_app (goodIn_of _ (by decide +kernel)) ggX4_read_X4_firstWrongPlace
set_option maxRecDepth 20000 in
theorem ggX4_read_X3_clear : GoodIn wsX4_read wsX3_clear := goodIn_r _ [186, 28, 278, 279] (by decide +kernel) (by decide +kernel)
set_option maxRecDepth 20000 in
theorem gX4_read_X3_clear : GoodIn wsX4_read (wsV RX4 48 RX3 yX3_clear wsX3_clear) := goodIn_app (goodIn_of _ (by decide +kernel)) ggX4_read_X3_clear
set_option maxRecDepth 20000 in
theorem ggX4_read_X1_init : GoodIn wsX4_read wsX1_init := goodIn_r _ [189, 190, 191, 192, 193, 61, 62, 63, 194, 195, 196, 197, 198, 199, 200, 201, 202, 203, 204, 205, 206, 207, 208, 180, 181, 16, 182, 18, 143, 209, 210, 211, 212, 151, 159, 10, 160, 213, 214, 215, 216, 217, 218, 219, 220, 221, 222, 223, 224, 65, 66, 225, 226, 227, 228, 229, 230, 231, 232, 136, 137, 176, 177, 178, 121, 122, 233, 234, 235, 236, 237, 161, 162, 163, 164, 238, 239, 240, 241, 242, 158, 145, 146, 147, 243, 244, 245, 246, 247, 248, 249, 250, 251, 252, 253, 254, 280, 281, 282, 283, 284, 285, 268, 269, 270, 271, 272, 273, 274, 275, 276, 277, 286, 287, 288] (by decide +kernel) (by decide +kernel)
set_option maxRecDepth 20000 in
theorem gX4_read_X1_init : GoodIn wsX4_read (wsX1_init) := ggX4_read_X1_init
set_option maxRecDepth 20000 in
theorem ggX4_read_X4_keep : GoodIn wsX4_read wsX4_keep := goodIn_r _ [258, 259, 260, 261, 262, 263, 264, 265, 266, 267] (by decide +kernel) (by decide +kernel)
set_option maxRecDepth 20000 in
theorem gX4_read_X4_keep : GoodIn wsX4_read (wsV RX4 54 RX4 yX4_keep wsX4_keep) := goodIn_app (goodIn_of _ (by decide +kernel)) ggX4_read_X4_keep
theorem dX4_read_0 : decode cX4_read 0 = .ok (.aload_n 0, 1) := by decide +kernel
theorem dX4_read_1 : decode cX4_read 1 = .ok (.invokevirtual 44, 3) := by decide +kernel
theorem dX4_read_4 : decode cX4_read 4 = .ok (.istore_n 1, 1) := by decide +kernel
theorem dX4_read_5 : decode cX4_read 5 = .ok (.aload_n 0, 1) := by decide +kernel
theorem dX4_read_6 : decode cX4_read 6 = .ok (.getfield 12, 3) := by decide +kernel
theorem dX4_read_9 : decode cX4_read 9 = .ok (.invokevirtual 48, 3) := by decide +kernel
theorem dX4_read_12 : decode cX4_read 12 = .ok (.iload_n 1, 1) := by decide +kernel
theorem dX4_read_13 : decode cX4_read 13 = .ok (.iconst (-1), 1) := by decide +kernel
theorem dX4_read_14 : decode cX4_read 14 = .ok (.if_icmp .eq 7, 3) := by decide +kernel
theorem dX4_read_17 : decode cX4_read 17 = .ok (.iconst (-1), 1) := by decide +kernel
theorem dX4_read_18 : decode cX4_read 18 = .ok (.iload_n 1, 1) := by decide +kernel
theorem dX4_read_19 : decode cX4_read 19 = .ok (.isub, 1) := by decide +kernel
theorem dX4_read_20 : decode cX4_read 20 = .ok (.ireturn, 1) := by decide +kernel
theorem dX4_read_21 : decode cX4_read 21 = .ok (.new 23, 3) := by decide +kernel
theorem dX4_read_24 : decode cX4_read 24 = .ok (.dup, 1) := by decide +kernel
theorem dX4_read_25 : decode cX4_read 25 = .ok (.aload_n 0, 1) := by decide +kernel
theorem dX4_read_26 : decode cX4_read 26 = .ok (.getfield 19, 3) := by decide +kernel
theorem dX4_read_29 : decode cX4_read 29 = .ok (.aload_n 0, 1) := by decide +kernel
theorem dX4_read_30 : decode cX4_read 30 = .ok (.getfield 37, 3) := by decide +kernel
theorem dX4_read_33 : decode cX4_read 33 = .ok (.invokespecial 51, 3) := by decide +kernel
theorem dX4_read_36 : decode cX4_read 36 = .ok (.astore_n 2, 1) := by decide +kernel
theorem dX4_read_37 : decode cX4_read 37 = .ok (.aload_n 0, 1) := by decide +kernel
theorem dX4_read_38 : decode cX4_read 38 = .ok (.aload_n 2, 1) := by decide +kernel
theorem dX4_read_39 : decode cX4_read 39 = .ok (.invokevirtual 54, 3) := by decide +kernel
theorem dX4_read_42 : decode cX4_read 42 = .ok (.aload_n 2, 1) := by decide +kernel
theorem dX4_read_43 : decode cX4_read 43 = .ok (.getfield 58, 3) := by decide +kernel
theorem dX4_read_46 : decode cX4_read 46 = .ok (.ireturn, 1) := by decide +kernel
theorem dX4_category_0 : decode cX4_category 0 = .ok (.aload_n 0, 1) := by decide +kernel
theorem dX4_category_1 : decode cX4_category 1 = .ok (.getfield 33, 3) := by decide +kernel
theorem dX4_category_4 : decode cX4_category 4 = .ok (.ifnonnull 7, 3) := by decide +kernel
theorem dX4_category_7 : decode cX4_category 7 = .ok (.iconst (-1), 1) := by decide +kernel
theorem dX4_category_8 : decode cX4_category 8 = .ok (.goto 10, 3) := by decide +kernel
theorem dX4_category_11 : decode cX4_category 11 = .ok (.aload_n 0, 1) := by decide +kernel
theorem dX4_category_12 : decode cX4_category 12 = .ok (.getfield 33, 3) := by decide +kernel
theorem dX4_category_15 : decode cX4_category 15 = .ok (.getfield 61, 3) := by decide +kernel
theorem dX4_category_18 : decode cX4_category 18 = .ok (.ireturn, 1) := by decide +kernel
set_option maxRecDepth 20000 in
theorem ggX4_digits_X1_isNumber : GoodIn wsX4_digits wsX1_isNumber := goodIn_r _ [6, 7, 14, 15, 16, 17, 18, 19, 20, 21, 22, 23] (by decide +kernel) (by decide +kernel)
set_option maxRecDepth 20000 in
theorem gX4_digits_X1_isNumber : GoodIn wsX4_digits (wsV RX4 64 RX1 yX1_isNumber wsX1_isNumber) := goodIn_app (goodIn_of _ (by decide +kernel)) ggX4_digits_X1_isNumber
theorem dX4_digits_0 : decode cX4_digits 0 = .ok (.aload_n 0, 1) := by decide +kernel
theorem dX4_digits_1 : decode cX4_digits 1 = .ok (.getfield 33, 3) := by decide +kernel
theorem dX4_digits_4 : decode cX4_digits 4 = .ok (.ifnull 13, 3) := by decide +kernel
theorem dX4_digits_7 : decode cX4_digits 7 = .ok (.aload_n 0, 1) := by decide +kernel
theorem dX4_digits_8 : decode cX4_digits 8 = .ok (.getfield 33, 3) := by decide +kernel
theorem dX4_digits_11 : decode cX4_digits 11 = .ok (.invokevirtual 64, 3) := by decide +kernel
theorem dX4_digits_14 : decode cX4_digits 14 = .ok (.ifCond .ne 5, 3) := by decide +kernel
theorem dX4_digits_17 : decode cX4_digits 17 = .ok (.iconst (-1), 1) := by decide +kernel
theorem dX4_digits_18 : decode cX4_digits 18 = .ok (.ireturn, 1) := by decide +kernel
theorem dX4_digits_19 : decode cX4_digits 19 = .ok (.iload_n 1, 1) := by decide +kernel
theorem dX4_digits_20 : decode cX4_digits 20 = .ok (.ifCond .ne 11, 3) := by decide +kernel
theorem dX4_digits_23 : decode cX4_digits 23 = .ok (.aload_n 0, 1) := by decide +kernel
theorem dX4_digits_24 : decode cX4_digits 24 = .ok (.getfield 33, 3) := by decide +kernel
theorem dX4_digits_27 : decode cX4_digits 27 = .ok (.getfield 68, 3) := by decide +kernel
theorem dX4_digits_30 : decode cX4_digits 30 = .ok (.ireturn, 1) := by decide +kernel
theorem dX4_digits_31 : decode cX4_digits 31 = .ok (.iload_n 1, 1) := by decide +kernel
theorem dX4_digits_32 : decode cX4_digits 32 = .ok (.iconst 1, 1) := by decide +kernel
theorem dX4_digits_33 : decode cX4_digits 33 = .ok (.if_icmp .ne 13, 3) := by decide +kernel
theorem dX4_digits_36 : decode cX4_digits 36 = .ok (.aload_n 0, 1) := by decide +kernel
theorem dX4_digits_37 : decode cX4_digits 37 = .ok (.getfield 33, 3) := by decide +kernel
theorem dX4_digits_40 : decode cX4_digits 40 = .ok (.getfield 71, 3) := by decide +kernel
theorem dX4_digits_43 : decode cX4_digits 43 = .ok (.goto 4, 3) := by decide +kernel
theorem dX4_digits_46 : decode cX4_digits 46 = .ok (.iconst (-1), 1) := by decide +kernel
theorem dX4_digits_47 : decode cX4_digits 47 = .ok (.ireturn, 1) := by decide +kernel
set_option maxRecDepth 20000 in
theorem ggX4_scale_X1_isNumber : GoodIn wsX4_scale wsX1_isNumber := goodIn_r _ [6, 7, 14, 15, 16, 17, 18, 19, 20, 21, 22, 23] (by decide +kernel) (by decide +kernel)
set_option maxRecDepth 20000 in
theorem gX4_scale_X1_isNumber : GoodIn wsX4_scale (wsV RX4 64 RX1 yX1_isNumber wsX1_isNumber) := goodIn_app (goodIn_of _ (by decide +kernel)) ggX4_scale_X1_isNumber
theorem dX4_scale_0 : decode cX4_scale 0 = .ok (.aload_n 0, 1) := by decide +kernel
theorem dX4_scale_1 : decode cX4_scale 1 = .ok (.getfield 33, 3) := by decide +kernel
theorem dX4_scale_4 : decode cX4_scale 4 = .ok (.ifnull 13, 3) := by decide +kernel
theorem dX4_scale_7 : decode cX4_scale 7 = .ok (.aload_n 0, 1) := by decide +kernel
theorem dX4_scale_8 : decode cX4_scale 8 = .ok (.getfield 33, 3) := by decide +kernel
theorem dX4_scale_11 : decode cX4_scale 11 = .ok (.invokevirtual 64, 3) := by decide +kernel
theorem dX4_scale_14 : decode cX4_scale 14 = .ok (.ifCond .ne 7, 3) := by decide +kernel
theorem dX4_scale_17 : decode cX4_scale 17 = .ok (.iconst 0, 1) := by decide +kernel
theorem dX4_scale_18 : decode cX4_scale 18 = .ok (.goto 10, 3) := by decide +kernel
theorem dX4_scale_21 : decode cX4_scale 21 = .ok (.aload_n 0, 1) := by decide +kernel
theorem dX4_scale_22 : decode cX4_scale 22 = .ok (.getfield 33, 3) := by decide +kernel
theorem dX4_scale_25 : decode cX4_scale 25 = .ok (.getfield 74, 3) := by decide +kernel
theorem dX4_scale_28 : decode cX4_scale 28 = .ok (.ireturn, 1) := by decide +kernel
set_option maxRecDepth 20000 in
theorem ggX4_follows_X4_isKind : GoodIn wsX4_follows wsX4_isKind := goodIn_r _ [8] (by decide +kernel) (by decide +kernel)
set_option maxRecDepth 20000 in
theorem gX4_follows_X4_isKind : GoodIn wsX4_follows (va_wsS RX4 77 yX4_isKind wsX4_isKind) := goodIn_app (goodIn_of _ (by decide +kernel)) ggX4_follows_X4_isKind
set_option maxRecDepth 20000 in
theorem ggX4_follows_X4_holds : GoodIn wsX4_follows wsX4_holds := goodIn_r _ [11] (by decide +kernel) (by decide +kernel)
set_option maxRecDepth 20000 in
theorem gX4_follows_X4_holds : GoodIn wsX4_follows (va_wsS RX4 92 yX4_holds wsX4_holds) := goodIn_app (goodIn_of _ (by decide +kernel)) ggX4_follows_X4_holds
theorem dX4_follows_0 : decode cX4_follows 0 = .ok (.iload_n 1, 1) := by decide +kernel
theorem dX4_follows_1 : decode cX4_follows 1 = .ok (.invokestatic 77, 3) := by decide +kernel
theorem dX4_follows_4 : decode cX4_follows 4 = .ok (.ifCond .eq 10, 3) := by decide +kernel
theorem dX4_follows_7 : decode cX4_follows 7 = .ok (.iload_n 2, 1) := by decide +kernel
theorem dX4_follows_8 : decode cX4_follows 8 = .ok (.invokestatic 77, 3) := by decide +kernel
theorem dX4_follows_11 : decode cX4_follows 11 = .ok (.ifCond .ne 13, 3) := by decide +kernel
theorem dX4_follows_14 : decode cX4_follows 14 = .ok (.new 81, 3) := by decide +kernel
theorem dX4_follows_17 : decode cX4_follows 17 = .ok (.dup, 1) := by decide +kernel
theorem dX4_follows_18 : decode cX4_follows 18 = .ok (.ldc 83, 2) := by decide +kernel
theorem dX4_follows_20 : decode cX4_follows 20 = .ok (.invokespecial 85, 3) := by decide +kernel
theorem dX4_follows_23 : decode cX4_follows 23 = .ok (.athrow, 1) := by decide +kernel
theorem dX4_follows_24 : decode cX4_follows 24 = .ok (.getstatic 88, 3) := by decide +kernel
theorem dX4_follows_27 : decode cX4_follows 27 = .ok (.iload_n 1, 1) := by decide +kernel
theorem dX4_follows_28 : decode cX4_follows 28 = .ok (.iaload, 1) := by decide +kernel
theorem dX4_follows_29 : decode cX4_follows 29 = .ok (.iload_n 2, 1) := by decide +kernel
theorem dX4_follows_30 : decode cX4_follows 30 = .ok (.invokestatic 92, 3) := by decide +kernel
theorem dX4_follows_33 : decode cX4_follows 33 = .ok (.ireturn, 1) := by decide +kernel
set_option maxRecDepth 20000 in
theorem ggX4_currency_X4_canBeCurrency : GoodIn wsX4_currency wsX4_canBeCurrency := goodIn_r _ [5, 6, 7, 4, 8, 9, 10, 11, 12, 13, 14, 15, 16, 17, 18, 19, 20, 21, 22, 23, 24, 25, 26, 27, 28, 29, 30, 31, 32, 33, 34, 35, 36, 37, 38, 39, 40, 41, 42, 43, 44, 45, 46, 47, 48, 49, 50, 51, 52, 53, 54, 55, 56, 57, 58, 59, 60, 61, 62, 63, 64, 65, 66, 67, 68, 69, 70, 71, 72, 73, 74, 75, 76, 77, 78, 79, 80, 81, 82, 83, 84, 85, 86, 87, 88, 89, 90, 91, 92, 93, 94, 95, 96, 97] (by decide +kernel) (by decide +kernel)
set_option maxRecDepth 20000 in
theorem gX4_currency_X4_canBeCurrency : GoodIn wsX4_currency (va_wsS RX4 96 yX4_canBeCurrency wsX4_canBeCurrency) := goodIn_app (goodIn_of _ (by decide +kernel)) ggX4_currency_X4_canBeCurrency
theorem dX4_currency_0 : decode cX4_currency 0 = .ok (.iload_n 1, 1) := by decide +kernel
theorem dX4_currency_1 : decode cX4_currency 1 = .ok (.invokestatic 96, 3) := by decide +kernel
theorem dX4_currency_4 : decode cX4_currency 4 = .ok (.ifCond .ne 5, 3) := by decide +kernel
theorem dX4_currency_7 : decode cX4_currency 7 = .ok (.iconst (-1), 1) := by decide +kernel
theorem dX4_currency_8 : decode cX4_currency 8 = .ok (.ireturn, 1) := by decide +kernel
theorem dX4_currency_9 : decode cX4_currency 9 = .ok (.aload_n 0, 1) := by decide +kernel
theorem dX4_currency_10 : decode cX4_currency 10 = .ok (.getfield 37, 3) := by decide +kernel
theorem dX4_currency_13 : decode cX4_currency 13 = .ok (.istore_n 2, 1) := by decide +kernel
theorem dX4_currency_14 : decode cX4_currency 14 = .ok (.aload_n 0, 1) := by decide +kernel
theorem dX4_currency_15 : decode cX4_currency 15 = .ok (.iload_n 1, 1) := by decide +kernel
theorem dX4_currency_16 : decode cX4_currency 16 = .ok (.putfield 37, 3) := by decide +kernel
theorem dX4_currency_19 : decode cX4_currency 19 = .ok (.iload_n 2, 1) := by decide +kernel
theorem dX4_currency_20 : decode cX4_currency 20 = .ok (.ireturn, 1) := by decide +kernel
set_option maxRecDepth 20000 in
theorem ggX4_at_X1_characterAt : GoodIn wsX4_at wsX1_characterAt := goodIn_r _ [6, 7, 8, 9, 10, 11, 12, 13, 14, 5, 15, 16, 23, 24, 25, 26, 27, 28, 29, 30, 31, 32] (by decide +kernel) (by decide +kernel)
set_option maxRecDepth 20000 in
theorem gX4_at_X1_characterAt : GoodIn wsX4_at (wsV RX4 99 RX1 yX1_characterAt wsX1_characterAt) := goodIn_app (goodIn_of _ (by decide +kernel)) ggX4_at_X1_characterAt
theorem dX4_at_0 : decode cX4_at 0 = .ok (.aload_n 0, 1) := by decide +kernel
theorem dX4_at_1 : decode cX4_at 1 = .ok (.getfield 33, 3) := by decide +kernel
theorem dX4_at_4 : decode cX4_at 4 = .ok (.ifnonnull 7, 3) := by decide +kernel
theorem dX4_at_7 : decode cX4_at 7 = .ok (.iconst (-1), 1) := by decide +kernel
theorem dX4_at_8 : decode cX4_at 8 = .ok (.goto 11, 3) := by decide +kernel
theorem dX4_at_11 : decode cX4_at 11 = .ok (.aload_n 0, 1) := by decide +kernel
theorem dX4_at_12 : decode cX4_at 12 = .ok (.getfield 33, 3) := by decide +kernel
theorem dX4_at_15 : decode cX4_at 15 = .ok (.iload_n 1, 1) := by decide +kernel
theorem dX4_at_16 : decode cX4_at 16 = .ok (.invokevirtual 99, 3) := by decide +kernel
theorem dX4_at_19 : decode cX4_at 19 = .ok (.ireturn, 1) := by decide +kernel
set_option maxRecDepth 20000 in
theorem ggX4_same_X0_equalTo : GoodIn wsX4_same wsX0_equalTo := goodIn_r _ [8, 9, 10, 11, 12, 7, 13, 14, 15, 16, 17, 18, 19, 36, 37, 38] (by decide +kernel) (by decide +kernel)
set_option maxRecDepth 20000 in
theorem gX4_same_X0_equalTo : GoodIn wsX4_same (wsV RX4 107 RX0 yX0_equalTo wsX0_equalTo) := goodIn_app (goodIn_of _ (by decide +kernel)) ggX4_same_X0_equalTo
theorem dX4_same_0 : decode cX4_same 0 = .ok (.aload_n 0, 1) := by decide +kernel
theorem dX4_same_1 : decode cX4_same 1 = .ok (.getfield 33, 3) := by decide +kernel
theorem dX4_same_4 : decode cX4_same 4 = .ok (.ifnull 21, 3) := by decide +kernel
theorem dX4_same_7 : decode cX4_same 7 = .ok (.iload_n 1, 1) := by decide +kernel
theorem dX4_same_8 : decode cX4_same 8 = .ok (.ifCond .lt 17, 3) := by decide +kernel
theorem dX4_same_11 : decode cX4_same 11 = .ok (.iload_n 1, 1) := by decide +kernel
theorem dX4_same_12 : decode cX4_same 12 = .ok (.aload_n 0, 1) := by decide +kernel
theorem dX4_same_13 : decode cX4_same 13 = .ok (.getfield 29, 3) := by decide +kernel
theorem dX4_same_16 : decode cX4_same 16 = .ok (.if_icmp .ge 9, 3) := by decide +kernel
theorem dX4_same_19 : decode cX4_same 19 = .ok (.iload_n 1, 1) := by decide +kernel
theorem dX4_same_20 : decode cX4_same 20 = .ok (.bipush 40, 2) := by decide +kernel
theorem dX4_same_22 : decode cX4_same 22 = .ok (.if_icmp .lt 5, 3) := by decide +kernel
theorem dX4_same_25 : decode cX4_same 25 = .ok (.iconst 0, 1) := by decide +kernel
theorem dX4_same_26 : decode cX4_same 26 = .ok (.ireturn, 1) := by decide +kernel
theorem dX4_same_27 : decode cX4_same 27 = .ok (.aload_n 0, 1) := by decide +kernel
theorem dX4_same_28 : decode cX4_same 28 = .ok (.getfield 25, 3) := by decide +kernel
theorem dX4_same_31 : decode cX4_same 31 = .ok (.iload_n 1, 1) := by decide +kernel
theorem dX4_same_32 : decode cX4_same 32 = .ok (.aaload, 1) := by decide +kernel
theorem dX4_same_33 : decode cX4_same 33 = .ok (.astore_n 2, 1) := by decide +kernel
theorem dX4_same_34 : decode cX4_same 34 = .ok (.aload_n 2, 1) := by decide +kernel
theorem dX4_same_35 : decode cX4_same 35 = .ok (.ifnull 24, 3) := by decide +kernel
theorem dX4_same_38 : decode cX4_same 38 = .ok (.aload_n 0, 1) := by decide +kernel
theorem dX4_same_39 : decode cX4_same 39 = .ok (.getfield 33, 3) := by decide +kernel
theorem dX4_same_42 : decode cX4_same 42 = .ok (.getfield 103, 3) := by decide +kernel
theorem dX4_same_45 : decode cX4_same 45 = .ok (.aload_n 2, 1) := by decide +kernel
theorem dX4_same_46 : decode cX4_same 46 = .ok (.getfield 103, 3) := by decide +kernel
theorem dX4_same_49 : decode cX4_same 49 = .ok (.invokevirtual 107, 3) := by decide +kernel
theorem dX4_same_52 : decode cX4_same 52 = .ok (.ifCond .eq 7, 3) := by decide +kernel
theorem dX4_same_55 : decode cX4_same 55 = .ok (.iconst 1, 1) := by decide +kernel
theorem dX4_same_56 : decode cX4_same 56 = .ok (.goto 4, 3) := by decide +kernel
theorem dX4_same_59 : decode cX4_same 59 = .ok (.iconst 0, 1) := by decide +kernel
theorem dX4_same_60 : decode cX4_same 60 = .ok (.ireturn, 1) := by decide +kernel
set_option maxRecDepth 20000 in
theorem ggX4_insertion_X1_insertionsOf : GoodIn wsX4_insertion wsX1_insertionsOf := goodIn_r _ [6, 7, 8, 9, 5, 10, 11, 12, 13, 14, 15, 16, 17, 24, 25, 26, 27, 28, 29, 30, 31, 32, 33] (by decide +kernel) (by decide +kernel)
set_option maxRecDepth 20000 in
theorem gX4_insertion_X1_insertionsOf : GoodIn wsX4_insertion (wsV RX4 113 RX1 yX1_insertionsOf wsX1_insertionsOf) := goodIn_app (goodIn_of _ (by decide +kernel)) ggX4_insertion_X1_insertionsOf
theorem dX4_insertion_0 : decode cX4_insertion 0 = .ok (.aload_n 0, 1) := by decide +kernel
theorem dX4_insertion_1 : decode cX4_insertion 1 = .ok (.getfield 33, 3) := by decide +kernel
theorem dX4_insertion_4 : decode cX4_insertion 4 = .ok (.ifnonnull 7, 3) := by decide +kernel
theorem dX4_insertion_7 : decode cX4_insertion 7 = .ok (.iconst (-1), 1) := by decide +kernel
theorem dX4_insertion_8 : decode cX4_insertion 8 = .ok (.goto 11, 3) := by decide +kernel
theorem dX4_insertion_11 : decode cX4_insertion 11 = .ok (.aload_n 0, 1) := by decide +kernel
theorem dX4_insertion_12 : decode cX4_insertion 12 = .ok (.getfield 33, 3) := by decide +kernel
theorem dX4_insertion_15 : decode cX4_insertion 15 = .ok (.iload_n 1, 1) := by decide +kernel
theorem dX4_insertion_16 : decode cX4_insertion 16 = .ok (.invokevirtual 113, 3) := by decide +kernel
theorem dX4_insertion_19 : decode cX4_insertion 19 = .ok (.ireturn, 1) := by decide +kernel
set_option maxRecDepth 20000 in
theorem ggX4_firstWrongPlace_X2_take : GoodIn wsX4_firstWrongPlace wsX2_take := goodIn_r _ [9, 10, 11, 12, 13, 14, 15, 16, 17, 18, 19, 20, 21, 22, 23, 24, 25, 26, 27, 28, 29, 30, 31, 32, 33, 34, 35, 36, 37, 38, 39, 40, 41, 42, 43, 44, 45, 46, 47, 48, 49, 50, 51, 52, 53, 54, 55, 56, 57, 58, 59, 60, 61, 62, 63, 64, 65, 66, 67, 68, 69, 70, 71, 72, 73, 74, 75, 76, 77, 78, 79, 80, 81, 82, 83, 84, 85, 86, 87, 88, 89, 90, 91, 92, 93, 94, 95, 96, 97, 98, 99, 100, 101, 102, 103, 104, 105, 106, 107, 108, 109, 110, 111, 112, 113, 114, 115, 116, 117, 118, 119, 120, 121, 122, 123, 124, 125, 126, 127, 8, 128, 129, 130, 131, 184, 185, 186, 187, 188, 189, 182, 183] (by decide +kernel) (by decide +kernel)
set_option maxRecDepth 20000 in
theorem gX4_firstWrongPlace_X2_take : GoodIn wsX4_firstWrongPlace (wsV RX4 116 RX2 yX2_take wsX2_take) := goodIn_app (goodIn_of _ (by decide +kernel)) ggX4_firstWrongPlace_X2_take
set_option maxRecDepth 20000 in
theorem ggX4_firstWrongPlace_X2_findKinds : GoodIn wsX4_firstWrongPlace wsX2_findKinds := goodIn_r _ [135, 10, 129, 136, 137, 138, 139, 8, 140, 130, 141, 142, 143, 144, 145, 184, 185, 186, 187, 188, 189] (by decide +kernel) (by decide +kernel)
set_option maxRecDepth 20000 in
theorem gX4_firstWrongPlace_X2_findKinds : GoodIn wsX4_firstWrongPlace (wsV RX4 120 RX2 yX2_findKinds wsX2_findKinds) := goodIn_app (goodIn_of _ (by decide +kernel)) ggX4_firstWrongPlace_X2_findKinds
set_option maxRecDepth 20000 in
theorem ggX4_firstWrongPlace_X2_findDigits : GoodIn wsX4_firstWrongPlace wsX2_findDigits := goodIn_r _ [149, 10, 150, 136, 130, 129, 151, 152, 23, 153, 154, 155, 156, 8, 157, 184, 185, 186, 187, 188, 189] (by decide +kernel) (by decide +kernel)
set_option maxRecDepth 20000 in
theorem gX4_firstWrongPlace_X2_findDigits : GoodIn wsX4_firstWrongPlace (wsV RX4 123 RX2 yX2_findDigits wsX2_findDigits) := goodIn_app (goodIn_of _ (by decide +kernel)) ggX4_firstWrongPlace_X2_findDigits
set_option maxRecDepth 20000 in
theorem ggX4_firstWrongPlace_X2_firstMisplaced : GoodIn wsX4_firstWrongPlace wsX2_firstMisplaced := goodIn_r _ [161, 162, 10, 136, 131, 130, 151, 129, 163, 23, 164, 152, 153, 165, 166, 167, 8, 168, 154, 155, 156, 157, 169, 170, 171, 114, 115, 184, 185, 186, 187, 188, 189] (by decide +kernel) (by decide +kernel)
set_option maxRecDepth 20000 in
theorem gX4_firstWrongPlace_X2_firstMisplaced : GoodIn wsX4_firstWrongPlace (wsV RX4 126 RX2 yX2_firstMisplaced wsX2_firstMisplaced) := goodIn_app (goodIn_of _ (by decide +kernel)) ggX4_firstWrongPlace_X2_firstMisplaced
set_option maxRecDepth 20000 in
theorem ggX4_firstWrongPlace_X2_kindsPresent : GoodIn wsX4_firstWrongPlace wsX2_kindsPresent := goodIn_r _ [175, 10, 136, 184, 185, 186, 187, 188, 189] (by decide +kernel) (by decide +kernel)
set_option maxRecDepth 20000 in
theorem gX4_firstWrongPlace_X2_kindsPresent : GoodIn wsX4_firstWrongPlace (wsV RX4 129 RX2 yX2_kindsPresent wsX2_kindsPresent) := goodIn_app (goodIn_of _ (by decide +kernel)) ggX4_firstWrongPlace_X2_kindsPresent
theorem dX4_firstWrongPlace_0 : decode cX4_firstWrongPlace 0 = .ok (.aload_n 0, 1) := by decide +kernel
theorem dX4_firstWrongPlace_1 : decode cX4_firstWrongPlace 1 = .ok (.getfield 19, 3) := by decide +kernel
theorem dX4_firstWrongPlace_4 : decode cX4_firstWrongPlace 4 = .ok (.aload_n 0, 1) := by decide +kernel
theorem dX4_firstWrongPlace_5 : decode cX4_firstWrongPlace 5 = .ok (.getfield 12, 3) := by decide +kernel
theorem dX4_firstWrongPlace_8 : decode cX4_firstWrongPlace 8 = .ok (.aload_n 0, 1) := by decide +kernel
theorem dX4_firstWrongPlace_9 : decode cX4_firstWrongPlace 9 = .ok (.getfield 37, 3) := by decide +kernel
theorem dX4_firstWrongPlace_12 : decode cX4_firstWrongPlace 12 = .ok (.invokevirtual 116, 3) := by decide +kernel
theorem dX4_firstWrongPlace_15 : decode cX4_firstWrongPlace 15 = .ok (.istore_n 1, 1) := by decide +kernel
theorem dX4_firstWrongPlace_16 : decode cX4_firstWrongPlace 16 = .ok (.iload_n 1, 1) := by decide +kernel
theorem dX4_firstWrongPlace_17 : decode cX4_firstWrongPlace 17 = .ok (.iconst (-1), 1) := by decide +kernel
theorem dX4_firstWrongPlace_18 : decode cX4_firstWrongPlace 18 = .ok (.if_icmp .eq 5, 3) := by decide +kernel
theorem dX4_firstWrongPlace_21 : decode cX4_firstWrongPlace 21 = .ok (.iload_n 1, 1) := by decide +kernel
theorem dX4_firstWrongPlace_22 : decode cX4_firstWrongPlace 22 = .ok (.ireturn, 1) := by decide +kernel
theorem dX4_firstWrongPlace_23 : decode cX4_firstWrongPlace 23 = .ok (.aload_n 0, 1) := by decide +kernel
theorem dX4_firstWrongPlace_24 : decode cX4_firstWrongPlace 24 = .ok (.getfield 19, 3) := by decide +kernel
theorem dX4_firstWrongPlace_27 : decode cX4_firstWrongPlace 27 = .ok (.invokevirtual 120, 3) := by decide +kernel
theorem dX4_firstWrongPlace_30 : decode cX4_firstWrongPlace 30 = .ok (.aload_n 0, 1) := by decide +kernel
theorem dX4_firstWrongPlace_31 : decode cX4_firstWrongPlace 31 = .ok (.getfield 19, 3) := by decide +kernel
theorem dX4_firstWrongPlace_34 : decode cX4_firstWrongPlace 34 = .ok (.invokevirtual 123, 3) := by decide +kernel
theorem dX4_firstWrongPlace_37 : decode cX4_firstWrongPlace 37 = .ok (.aload_n 0, 1) := by decide +kernel
theorem dX4_firstWrongPlace_38 : decode cX4_firstWrongPlace 38 = .ok (.getfield 19, 3) := by decide +kernel
theorem dX4_firstWrongPlace_41 : decode cX4_firstWrongPlace 41 = .ok (.invokevirtual 126, 3) := by decide +kernel
theorem dX4_firstWrongPlace_44 : decode cX4_firstWrongPlace 44 = .ok (.istore_n 1, 1) := by decide +kernel
theorem dX4_firstWrongPlace_45 : decode cX4_firstWrongPlace 45 = .ok (.iload_n 1, 1) := by decide +kernel
theorem dX4_firstWrongPlace_46 : decode cX4_firstWrongPlace 46 = .ok (.iconst (-1), 1) := by decide +kernel
theorem dX4_firstWrongPlace_47 : decode cX4_firstWrongPlace 47 = .ok (.if_icmp .eq 5, 3) := by decide +kernel
theorem dX4_firstWrongPlace_50 : decode cX4_firstWrongPlace 50 = .ok (.iload_n 1, 1) := by decide +kernel
theorem dX4_firstWrongPlace_51 : decode cX4_firstWrongPlace 51 = .ok (.ireturn, 1) := by decide +kernel
theorem dX4_firstWrongPlace_52 : decode cX4_firstWrongPlace 52 = .ok (.aload_n 0, 1) := by decide +kernel
theorem dX4_firstWrongPlace_53 : decode cX4_firstWrongPlace 53 = .ok (.getfield 19, 3) := by decide +kernel
theorem dX4_firstWrongPlace_56 : decode cX4_firstWrongPlace 56 = .ok (.invokevirtual 129, 3) := by decide +kernel
theorem dX4_firstWrongPlace_59 : decode cX4_firstWrongPlace 59 = .ok (.ldc 132, 2) := by decide +kernel
theorem dX4_firstWrongPlace_61 : decode cX4_firstWrongPlace 61 = .ok (.iand, 1) := by decide +kernel
theorem dX4_firstWrongPlace_62 : decode cX4_firstWrongPlace 62 = .ok (.ifCond .ne 13, 3) := by decide +kernel
theorem dX4_firstWrongPlace_65 : decode cX4_firstWrongPlace 65 = .ok (.aload_n 0, 1) := by decide +kernel
theorem dX4_firstWrongPlace_66 : decode cX4_firstWrongPlace 66 = .ok (.getfield 12, 3) := by decide +kernel
theorem dX4_firstWrongPlace_69 : decode cX4_firstWrongPlace 69 = .ok (.getfield 133, 3) := by decide +kernel
theorem dX4_firstWrongPlace_72 : decode cX4_firstWrongPlace 72 = .ok (.goto 4, 3) := by decide +kernel
theorem dX4_firstWrongPlace_75 : decode cX4_firstWrongPlace 75 = .ok (.iconst (-1), 1) := by decide +kernel
theorem dX4_firstWrongPlace_76 : decode cX4_firstWrongPlace 76 = .ok (.ireturn, 1) := by decide +kernel
theorem dX4_keep_0 : decode cX4_keep 0 = .ok (.aload_n 0, 1) := by decide +kernel
theorem dX4_keep_1 : decode cX4_keep 1 = .ok (.aload_n 1, 1) := by decide +kernel
theorem dX4_keep_2 : decode cX4_keep 2 = .ok (.putfield 33, 3) := by decide +kernel
theorem dX4_keep_5 : decode cX4_keep 5 = .ok (.aload_n 0, 1) := by decide +kernel
theorem dX4_keep_6 : decode cX4_keep 6 = .ok (.getfield 29, 3) := by decide +kernel
theorem dX4_keep_9 : decode cX4_keep 9 = .ok (.ifCond .lt 32, 3) := by decide +kernel
theorem dX4_keep_12 : decode cX4_keep 12 = .ok (.aload_n 0, 1) := by decide +kernel
theorem dX4_keep_13 : decode cX4_keep 13 = .ok (.getfield 29, 3) := by decide +kernel
theorem dX4_keep_16 : decode cX4_keep 16 = .ok (.bipush 40, 2) := by decide +kernel
theorem dX4_keep_18 : decode cX4_keep 18 = .ok (.if_icmp .ge 23, 3) := by decide +kernel
theorem dX4_keep_21 : decode cX4_keep 21 = .ok (.aload_n 0, 1) := by decide +kernel
theorem dX4_keep_22 : decode cX4_keep 22 = .ok (.getfield 25, 3) := by decide +kernel
theorem dX4_keep_25 : decode cX4_keep 25 = .ok (.aload_n 0, 1) := by decide +kernel
theorem dX4_keep_26 : decode cX4_keep 26 = .ok (.getfield 29, 3) := by decide +kernel
theorem dX4_keep_29 : decode cX4_keep 29 = .ok (.aload_n 1, 1) := by decide +kernel
theorem dX4_keep_30 : decode cX4_keep 30 = .ok (.aastore, 1) := by decide +kernel
theorem dX4_keep_31 : decode cX4_keep 31 = .ok (.aload_n 0, 1) := by decide +kernel
theorem dX4_keep_32 : decode cX4_keep 32 = .ok (.dup, 1) := by decide +kernel
theorem dX4_keep_33 : decode cX4_keep 33 = .ok (.getfield 29, 3) := by decide +kernel
theorem dX4_keep_36 : decode cX4_keep 36 = .ok (.iconst 1, 1) := by decide +kernel
theorem dX4_keep_37 : decode cX4_keep 37 = .ok (.iadd, 1) := by decide +kernel
theorem dX4_keep_38 : decode cX4_keep 38 = .ok (.putfield 29, 3) := by decide +kernel
theorem dX4_keep_41 : decode cX4_keep 41 = .ok (.return_, 1) := by decide +kernel
theorem dX4_isKind_0 : decode cX4_isKind 0 = .ok (.iload_n 0, 1) := by decide +kernel
theorem dX4_isKind_1 : decode cX4_isKind 1 = .ok (.ifCond .lt 13, 3) := by decide +kernel
theorem dX4_isKind_4 : decode cX4_isKind 4 = .ok (.iload_n 0, 1) := by decide +kernel
theorem dX4_isKind_5 : decode cX4_isKind 5 = .ok (.bipush 19, 2) := by decide +kernel
theorem dX4_isKind_7 : decode cX4_isKind 7 = .ok (.if_icmp .ge 7, 3) := by decide +kernel
theorem dX4_isKind_10 : decode cX4_isKind 10 = .ok (.iconst 1, 1) := by decide +kernel
theorem dX4_isKind_11 : decode cX4_isKind 11 = .ok (.goto 4, 3) := by decide +kernel
theorem dX4_isKind_14 : decode cX4_isKind 14 = .ok (.iconst 0, 1) := by decide +kernel
theorem dX4_isKind_15 : decode cX4_isKind 15 = .ok (.ireturn, 1) := by decide +kernel
theorem dX4_holds_0 : decode cX4_holds 0 = .ok (.iload_n 0, 1) := by decide +kernel
theorem dX4_holds_1 : decode cX4_holds 1 = .ok (.iload_n 1, 1) := by decide +kernel
theorem dX4_holds_2 : decode cX4_holds 2 = .ok (.ishr, 1) := by decide +kernel
theorem dX4_holds_3 : decode cX4_holds 3 = .ok (.iconst 1, 1) := by decide +kernel
theorem dX4_holds_4 : decode cX4_holds 4 = .ok (.iand, 1) := by decide +kernel
theorem dX4_holds_5 : decode cX4_holds 5 = .ok (.ifCond .eq 7, 3) := by decide +kernel
theorem dX4_holds_8 : decode cX4_holds 8 = .ok (.iconst 1, 1) := by decide +kernel
theorem dX4_holds_9 : decode cX4_holds 9 = .ok (.goto 4, 3) := by decide +kernel
theorem dX4_holds_12 : decode cX4_holds 12 = .ok (.iconst 0, 1) := by decide +kernel
theorem dX4_holds_13 : decode cX4_holds 13 = .ok (.ireturn, 1) := by decide +kernel
theorem dX4_greatOf_0 : decode cX4_greatOf 0 = .ok (.iload_n 0, 1) := by decide +kernel
theorem dX4_greatOf_1 : decode cX4_greatOf 1 = .ok (.bipush 97, 2) := by decide +kernel
theorem dX4_greatOf_3 : decode cX4_greatOf 3 = .ok (.if_icmp .lt 19, 3) := by decide +kernel
theorem dX4_greatOf_6 : decode cX4_greatOf 6 = .ok (.iload_n 0, 1) := by decide +kernel
theorem dX4_greatOf_7 : decode cX4_greatOf 7 = .ok (.bipush 122, 2) := by decide +kernel
theorem dX4_greatOf_9 : decode cX4_greatOf 9 = .ok (.if_icmp .gt 13, 3) := by decide +kernel
theorem dX4_greatOf_12 : decode cX4_greatOf 12 = .ok (.iload_n 0, 1) := by decide +kernel
theorem dX4_greatOf_13 : decode cX4_greatOf 13 = .ok (.bipush 97, 2) := by decide +kernel
theorem dX4_greatOf_15 : decode cX4_greatOf 15 = .ok (.isub, 1) := by decide +kernel
theorem dX4_greatOf_16 : decode cX4_greatOf 16 = .ok (.bipush 65, 2) := by decide +kernel
theorem dX4_greatOf_18 : decode cX4_greatOf 18 = .ok (.iadd, 1) := by decide +kernel
theorem dX4_greatOf_19 : decode cX4_greatOf 19 = .ok (.goto 4, 3) := by decide +kernel
theorem dX4_greatOf_22 : decode cX4_greatOf 22 = .ok (.iload_n 0, 1) := by decide +kernel
theorem dX4_greatOf_23 : decode cX4_greatOf 23 = .ok (.ireturn, 1) := by decide +kernel
set_option maxRecDepth 20000 in
theorem ggX4_canBeCurrency_X4_greatOf : GoodIn wsX4_canBeCurrency wsX4_greatOf := goodIn_r _ [4] (by decide +kernel) (by decide +kernel)
set_option maxRecDepth 20000 in
theorem gX4_canBeCurrency_X4_greatOf : GoodIn wsX4_canBeCurrency (va_wsS RX4 138 yX4_greatOf wsX4_greatOf) := goodIn_app (goodIn_of _ (by decide +kernel)) ggX4_canBeCurrency_X4_greatOf
set_option maxRecDepth 20000 in
theorem ggX4_canBeCurrency_J0_indexOf_0f7a4 : GoodIn wsX4_canBeCurrency wsJ0_indexOf_0f7a4 := goodIn_r _ [9, 10, 11, 12, 8, 13, 14, 15, 16, 17, 18, 19, 20, 21, 22, 23, 24, 25, 26, 27, 28, 29, 30, 31, 32, 33, 34, 35, 36, 37, 38, 39, 40, 41, 42, 43, 44, 45, 46, 47, 48, 49, 50, 51, 52, 53, 54, 55, 56, 57, 58, 59, 60, 61, 62, 63, 64, 65, 66, 67, 68, 69, 70, 71, 72, 73, 74, 75, 76, 77, 78, 79, 80, 81, 82, 83, 84, 85, 86, 87, 88, 89, 90, 91, 92, 93] (by decide +kernel) (by decide +kernel)
set_option maxRecDepth 20000 in
theorem gX4_canBeCurrency_J0_indexOf_0f7a4 : GoodIn wsX4_canBeCurrency (wsV RX4 141 RJ0 yJ0_indexOf_0f7a4 wsJ0_indexOf_0f7a4) := goodIn_app (goodIn_of _ (by decide +kernel)) ggX4_canBeCurrency_J0_indexOf_0f7a4
theorem dX4_canBeCurrency_0 : decode cX4_canBeCurrency 0 = .ok (.iload_n 0, 1) := by decide +kernel
theorem dX4_canBeCurrency_1 : decode cX4_canBeCurrency 1 = .ok (.bipush 33, 2) := by decide +kernel
theorem dX4_canBeCurrency_3 : decode cX4_canBeCurrency 3 = .ok (.if_icmp .lt 26, 3) := by decide +kernel
theorem dX4_canBeCurrency_6 : decode cX4_canBeCurrency 6 = .ok (.iload_n 0, 1) := by decide +kernel
theorem dX4_canBeCurrency_7 : decode cX4_canBeCurrency 7 = .ok (.bipush 126, 2) := by decide +kernel
theorem dX4_canBeCurrency_9 : decode cX4_canBeCurrency 9 = .ok (.if_icmp .gt 20, 3) := by decide +kernel
theorem dX4_canBeCurrency_12 : decode cX4_canBeCurrency 12 = .ok (.ldc 136, 2) := by decide +kernel
theorem dX4_canBeCurrency_14 : decode cX4_canBeCurrency 14 = .ok (.iload_n 0, 1) := by decide +kernel
theorem dX4_canBeCurrency_15 : decode cX4_canBeCurrency 15 = .ok (.invokestatic 138, 3) := by decide +kernel
theorem dX4_canBeCurrency_18 : decode cX4_canBeCurrency 18 = .ok (.i2c, 1) := by decide +kernel
theorem dX4_canBeCurrency_19 : decode cX4_canBeCurrency 19 = .ok (.invokevirtual 141, 3) := by decide +kernel
theorem dX4_canBeCurrency_22 : decode cX4_canBeCurrency 22 = .ok (.ifCond .ge 7, 3) := by decide +kernel
theorem dX4_canBeCurrency_25 : decode cX4_canBeCurrency 25 = .ok (.iconst 1, 1) := by decide +kernel
theorem dX4_canBeCurrency_26 : decode cX4_canBeCurrency 26 = .ok (.goto 4, 3) := by decide +kernel
theorem dX4_canBeCurrency_29 : decode cX4_canBeCurrency 29 = .ok (.iconst 0, 1) := by decide +kernel
theorem dX4_canBeCurrency_30 : decode cX4_canBeCurrency 30 = .ok (.ireturn, 1) := by decide +kernel
theorem dX4_widthOf_0 : decode cX4_widthOf 0 = .ok (.iload_n 0, 1) := by decide +kernel
theorem dX4_widthOf_1 : decode cX4_widthOf 1 = .ok (.bipush 67, 2) := by decide +kernel
theorem dX4_widthOf_3 : decode cX4_widthOf 3 = .ok (.if_icmp .eq 9, 3) := by decide +kernel
theorem dX4_widthOf_6 : decode cX4_widthOf 6 = .ok (.iload_n 0, 1) := by decide +kernel
theorem dX4_widthOf_7 : decode cX4_widthOf 7 = .ok (.bipush 68, 2) := by decide +kernel
theorem dX4_widthOf_9 : decode cX4_widthOf 9 = .ok (.if_icmp .ne 7, 3) := by decide +kernel
theorem dX4_widthOf_12 : decode cX4_widthOf 12 = .ok (.iconst 2, 1) := by decide +kernel
theorem dX4_widthOf_13 : decode cX4_widthOf 13 = .ok (.goto 4, 3) := by decide +kernel
theorem dX4_widthOf_16 : decode cX4_widthOf 16 = .ok (.iconst 1, 1) := by decide +kernel
theorem dX4_widthOf_17 : decode cX4_widthOf 17 = .ok (.ireturn, 1) := by decide +kernel
set_option maxRecDepth 20000 in
theorem ggX4_signsCounted_X4_widthOf : GoodIn wsX4_signsCounted wsX4_widthOf := goodIn_r _ [4] (by decide +kernel) (by decide +kernel)
set_option maxRecDepth 20000 in
theorem gX4_signsCounted_X4_widthOf : GoodIn wsX4_signsCounted (va_wsS RX4 146 yX4_widthOf wsX4_widthOf) := goodIn_app (goodIn_of _ (by decide +kernel)) ggX4_signsCounted_X4_widthOf
theorem dX4_signsCounted_0 : decode cX4_signsCounted 0 = .ok (.iload_n 0, 1) := by decide +kernel
theorem dX4_signsCounted_1 : decode cX4_signsCounted 1 = .ok (.bipush 83, 2) := by decide +kernel
theorem dX4_signsCounted_3 : decode cX4_signsCounted 3 = .ok (.if_icmp .eq 15, 3) := by decide +kernel
theorem dX4_signsCounted_6 : decode cX4_signsCounted 6 = .ok (.iload_n 0, 1) := by decide +kernel
theorem dX4_signsCounted_7 : decode cX4_signsCounted 7 = .ok (.bipush 86, 2) := by decide +kernel
theorem dX4_signsCounted_9 : decode cX4_signsCounted 9 = .ok (.if_icmp .eq 9, 3) := by decide +kernel
theorem dX4_signsCounted_12 : decode cX4_signsCounted 12 = .ok (.iload_n 0, 1) := by decide +kernel
theorem dX4_signsCounted_13 : decode cX4_signsCounted 13 = .ok (.bipush 80, 2) := by decide +kernel
theorem dX4_signsCounted_15 : decode cX4_signsCounted 15 = .ok (.if_icmp .ne 7, 3) := by decide +kernel
theorem dX4_signsCounted_18 : decode cX4_signsCounted 18 = .ok (.iconst 0, 1) := by decide +kernel
theorem dX4_signsCounted_19 : decode cX4_signsCounted 19 = .ok (.goto 9, 3) := by decide +kernel
theorem dX4_signsCounted_22 : decode cX4_signsCounted 22 = .ok (.iload_n 1, 1) := by decide +kernel
theorem dX4_signsCounted_23 : decode cX4_signsCounted 23 = .ok (.iload_n 0, 1) := by decide +kernel
theorem dX4_signsCounted_24 : decode cX4_signsCounted 24 = .ok (.invokestatic 146, 3) := by decide +kernel
theorem dX4_signsCounted_27 : decode cX4_signsCounted 27 = .ok (.imul, 1) := by decide +kernel
theorem dX4_signsCounted_28 : decode cX4_signsCounted 28 = .ok (.ireturn, 1) := by decide +kernel
end
section
theorem dX5_init_0 : decode cX5_init 0 = .ok (.aload_n 0, 1) := by decide +kernel
theorem dX5_init_1 : decode cX5_init 1 = .ok (.invokespecial 1, 3) := by decide +kernel
theorem dX5_init_4 : decode cX5_init 4 = .ok (.aload_n 0, 1) := by decide +kernel
theorem dX5_init_5 : decode cX5_init 5 = .ok (.bipush 80, 2) := by decide +kernel
theorem dX5_init_7 : decode cX5_init 7 = .ok (.newarray .int, 2) := by decide +kernel
theorem dX5_init_9 : decode cX5_init 9 = .ok (.putfield 7, 3) := by decide +kernel
theorem dX5_init_12 : decode cX5_init 12 = .ok (.aload_n 0, 1) := by decide +kernel
theorem dX5_init_13 : decode cX5_init 13 = .ok (.bipush 36, 2) := by decide +kernel
theorem dX5_init_15 : decode cX5_init 15 = .ok (.putfield 13, 3) := by decide +kernel
theorem dX5_init_18 : decode cX5_init 18 = .ok (.aload_n 0, 1) := by decide +kernel
theorem dX5_init_19 : decode cX5_init 19 = .ok (.sipush 10200, 3) := by decide +kernel
theorem dX5_init_22 : decode cX5_init 22 = .ok (.newarray .int, 2) := by decide +kernel
theorem dX5_init_24 : decode cX5_init 24 = .ok (.putfield 17, 3) := by decide +kernel
theorem dX5_init_27 : decode cX5_init 27 = .ok (.aload_n 0, 1) := by decide +kernel
theorem dX5_init_28 : decode cX5_init 28 = .ok (.sipush 10200, 3) := by decide +kernel
theorem dX5_init_31 : decode cX5_init 31 = .ok (.newarray .int, 2) := by decide +kernel
theorem dX5_init_33 : decode cX5_init 33 = .ok (.putfield 20, 3) := by decide +kernel
theorem dX5_init_36 : decode cX5_init 36 = .ok (.aload_n 0, 1) := by decide +kernel
theorem dX5_init_37 : decode cX5_init 37 = .ok (.sipush 10200, 3) := by decide +kernel
theorem dX5_init_40 : decode cX5_init 40 = .ok (.newarray .int, 2) := by decide +kernel
theorem dX5_init_42 : decode cX5_init 42 = .ok (.putfield 23, 3) := by decide +kernel
theorem dX5_init_45 : decode cX5_init 45 = .ok (.aload_n 0, 1) := by decide +kernel
theorem dX5_init_46 : decode cX5_init 46 = .ok (.sipush 10200, 3) := by decide +kernel
theorem dX5_init_49 : decode cX5_init 49 = .ok (.newarray .int, 2) := by decide +kernel
theorem dX5_init_51 : decode cX5_init 51 = .ok (.putfield 26, 3) := by decide +kernel
theorem dX5_init_54 : decode cX5_init 54 = .ok (.aload_n 0, 1) := by decide +kernel
theorem dX5_init_55 : decode cX5_init 55 = .ok (.sipush 10200, 3) := by decide +kernel
theorem dX5_init_58 : decode cX5_init 58 = .ok (.newarray .int, 2) := by decide +kernel
theorem dX5_init_60 : decode cX5_init 60 = .ok (.putfield 29, 3) := by decide +kernel
theorem dX5_init_63 : decode cX5_init 63 = .ok (.aload_n 0, 1) := by decide +kernel
theorem dX5_init_64 : decode cX5_init 64 = .ok (.sipush 10200, 3) := by decide +kernel
theorem dX5_init_67 : decode cX5_init 67 = .ok (.newarray .int, 2) := by decide +kernel
theorem dX5_init_69 : decode cX5_init 69 = .ok (.putfield 32, 3) := by decide +kernel
theorem dX5_init_72 : decode cX5_init 72 = .ok (.aload_n 0, 1) := by decide +kernel
theorem dX5_init_73 : decode cX5_init 73 = .ok (.iconst (-1), 1) := by decide +kernel
theorem dX5_init_74 : decode cX5_init 74 = .ok (.putfield 35, 3) := by decide +kernel
theorem dX5_init_77 : decode cX5_init 77 = .ok (.aload_n 0, 1) := by decide +kernel
theorem dX5_init_78 : decode cX5_init 78 = .ok (.ldc 38, 2) := by decide +kernel
theorem dX5_init_80 : decode cX5_init 80 = .ok (.newarray .int, 2) := by decide +kernel
theorem dX5_init_82 : decode cX5_init 82 = .ok (.putfield 39, 3) := by decide +kernel
theorem dX5_init_85 : decode cX5_init 85 = .ok (.aload_n 0, 1) := by decide +kernel
theorem dX5_init_86 : decode cX5_init 86 = .ok (.ldc 38, 2) := by decide +kernel
theorem dX5_init_88 : decode cX5_init 88 = .ok (.newarray .int, 2) := by decide +kernel
theorem dX5_init_90 : decode cX5_init 90 = .ok (.putfield 42, 3) := by decide +kernel
theorem dX5_init_93 : decode cX5_init 93 = .ok (.aload_n 0, 1) := by decide +kernel
theorem dX5_init_94 : decode cX5_init 94 = .ok (.bipush 40, 2) := by decide +kernel
theorem dX5_init_96 : decode cX5_init 96 = .ok (.newarray .int, 2) := by decide +kernel
theorem dX5_init_98 : decode cX5_init 98 = .ok (.putfield 45, 3) := by decide +kernel
theorem dX5_init_101 : decode cX5_init 101 = .ok (.aload_n 0, 1) := by decide +kernel
theorem dX5_init_102 : decode cX5_init 102 = .ok (.bipush 19, 2) := by decide +kernel
theorem dX5_init_104 : decode cX5_init 104 = .ok (.newarray .int, 2) := by decide +kernel
theorem dX5_init_106 : decode cX5_init 106 = .ok (.dup, 1) := by decide +kernel
theorem dX5_init_107 : decode cX5_init 107 = .ok (.iconst 0, 1) := by decide +kernel
theorem dX5_init_108 : decode cX5_init 108 = .ok (.ldc 48, 2) := by decide +kernel
theorem dX5_init_110 : decode cX5_init 110 = .ok (.iastore, 1) := by decide +kernel
theorem dX5_init_111 : decode cX5_init 111 = .ok (.dup, 1) := by decide +kernel
theorem dX5_init_112 : decode cX5_init 112 = .ok (.iconst 1, 1) := by decide +kernel
theorem dX5_init_113 : decode cX5_init 113 = .ok (.ldc 49, 2) := by decide +kernel
theorem dX5_init_115 : decode cX5_init 115 = .ok (.iastore, 1) := by decide +kernel
theorem dX5_init_116 : decode cX5_init 116 = .ok (.dup, 1) := by decide +kernel
theorem dX5_init_117 : decode cX5_init 117 = .ok (.iconst 2, 1) := by decide +kernel
theorem dX5_init_118 : decode cX5_init 118 = .ok (.sipush 6803, 3) := by decide +kernel
theorem dX5_init_121 : decode cX5_init 121 = .ok (.iastore, 1) := by decide +kernel
theorem dX5_init_122 : decode cX5_init 122 = .ok (.dup, 1) := by decide +kernel
theorem dX5_init_123 : decode cX5_init 123 = .ok (.iconst 3, 1) := by decide +kernel
theorem dX5_init_124 : decode cX5_init 124 = .ok (.ldc 50, 2) := by decide +kernel
theorem dX5_init_126 : decode cX5_init 126 = .ok (.iastore, 1) := by decide +kernel
theorem dX5_init_127 : decode cX5_init 127 = .ok (.dup, 1) := by decide +kernel
theorem dX5_init_128 : decode cX5_init 128 = .ok (.iconst 4, 1) := by decide +kernel
theorem dX5_init_129 : decode cX5_init 129 = .ok (.iconst 0, 1) := by decide +kernel
theorem dX5_init_130 : decode cX5_init 130 = .ok (.iastore, 1) := by decide +kernel
theorem dX5_init_131 : decode cX5_init 131 = .ok (.dup, 1) := by decide +kernel
theorem dX5_init_132 : decode cX5_init 132 = .ok (.iconst 5, 1) := by decide +kernel
theorem dX5_init_133 : decode cX5_init 133 = .ok (.ldc 51, 2) := by decide +kernel
theorem dX5_init_135 : decode cX5_init 135 = .ok (.iastore, 1) := by decide +kernel
theorem dX5_init_136 : decode cX5_init 136 = .ok (.dup, 1) := by decide +kernel
theorem dX5_init_137 : decode cX5_init 137 = .ok (.bipush 6, 2) := by decide +kernel
theorem dX5_init_139 : decode cX5_init 139 = .ok (.ldc 52, 2) := by decide +kernel
theorem dX5_init_141 : decode cX5_init 141 = .ok (.iastore, 1) := by decide +kernel
theorem dX5_init_142 : decode cX5_init 142 = .ok (.dup, 1) := by decide +kernel
theorem dX5_init_143 : decode cX5_init 143 = .ok (.bipush 7, 2) := by decide +kernel
theorem dX5_init_145 : decode cX5_init 145 = .ok (.sipush 147, 3) := by decide +kernel
theorem dX5_init_148 : decode cX5_init 148 = .ok (.iastore, 1) := by decide +kernel
theorem dX5_init_149 : decode cX5_init 149 = .ok (.dup, 1) := by decide +kernel
theorem dX5_init_150 : decode cX5_init 150 = .ok (.bipush 8, 2) := by decide +kernel
theorem dX5_init_152 : decode cX5_init 152 = .ok (.ldc 53, 2) := by decide +kernel
theorem dX5_init_154 : decode cX5_init 154 = .ok (.iastore, 1) := by decide +kernel
theorem dX5_init_155 : decode cX5_init 155 = .ok (.dup, 1) := by decide +kernel
theorem dX5_init_156 : decode cX5_init 156 = .ok (.bipush 9, 2) := by decide +kernel
theorem dX5_init_158 : decode cX5_init 158 = .ok (.sipush 515, 3) := by decide +kernel
theorem dX5_init_161 : decode cX5_init 161 = .ok (.iastore, 1) := by decide +kernel
theorem dX5_init_162 : decode cX5_init 162 = .ok (.dup, 1) := by decide +kernel
theorem dX5_init_163 : decode cX5_init 163 = .ok (.bipush 10, 2) := by decide +kernel
theorem dX5_init_165 : decode cX5_init 165 = .ok (.ldc 54, 2) := by decide +kernel
theorem dX5_init_167 : decode cX5_init 167 = .ok (.iastore, 1) := by decide +kernel
theorem dX5_init_168 : decode cX5_init 168 = .ok (.dup, 1) := by decide +kernel
theorem dX5_init_169 : decode cX5_init 169 = .ok (.bipush 11, 2) := by decide +kernel
theorem dX5_init_171 : decode cX5_init 171 = .ok (.sipush 2067, 3) := by decide +kernel
theorem dX5_init_174 : decode cX5_init 174 = .ok (.iastore, 1) := by decide +kernel
theorem dX5_init_175 : decode cX5_init 175 = .ok (.dup, 1) := by decide +kernel
theorem dX5_init_176 : decode cX5_init 176 = .ok (.bipush 12, 2) := by decide +kernel
theorem dX5_init_178 : decode cX5_init 178 = .ok (.ldc 55, 2) := by decide +kernel
theorem dX5_init_180 : decode cX5_init 180 = .ok (.iastore, 1) := by decide +kernel
theorem dX5_init_181 : decode cX5_init 181 = .ok (.dup, 1) := by decide +kernel
theorem dX5_init_182 : decode cX5_init 182 = .ok (.bipush 13, 2) := by decide +kernel
theorem dX5_init_184 : decode cX5_init 184 = .ok (.sipush 12289, 3) := by decide +kernel
theorem dX5_init_187 : decode cX5_init 187 = .ok (.iastore, 1) := by decide +kernel
theorem dX5_init_188 : decode cX5_init 188 = .ok (.dup, 1) := by decide +kernel
theorem dX5_init_189 : decode cX5_init 189 = .ok (.bipush 14, 2) := by decide +kernel
theorem dX5_init_191 : decode cX5_init 191 = .ok (.ldc 56, 2) := by decide +kernel
theorem dX5_init_193 : decode cX5_init 193 = .ok (.iastore, 1) := by decide +kernel
theorem dX5_init_194 : decode cX5_init 194 = .ok (.dup, 1) := by decide +kernel
theorem dX5_init_195 : decode cX5_init 195 = .ok (.bipush 15, 2) := by decide +kernel
theorem dX5_init_197 : decode cX5_init 197 = .ok (.ldc 57, 2) := by decide +kernel
theorem dX5_init_199 : decode cX5_init 199 = .ok (.iastore, 1) := by decide +kernel
theorem dX5_init_200 : decode cX5_init 200 = .ok (.dup, 1) := by decide +kernel
theorem dX5_init_201 : decode cX5_init 201 = .ok (.bipush 16, 2) := by decide +kernel
theorem dX5_init_203 : decode cX5_init 203 = .ok (.ldc 57, 2) := by decide +kernel
theorem dX5_init_205 : decode cX5_init 205 = .ok (.iastore, 1) := by decide +kernel
theorem dX5_init_206 : decode cX5_init 206 = .ok (.dup, 1) := by decide +kernel
theorem dX5_init_207 : decode cX5_init 207 = .ok (.bipush 17, 2) := by decide +kernel
theorem dX5_init_209 : decode cX5_init 209 = .ok (.ldc 58, 2) := by decide +kernel
theorem dX5_init_211 : decode cX5_init 211 = .ok (.iastore, 1) := by decide +kernel
theorem dX5_init_212 : decode cX5_init 212 = .ok (.dup, 1) := by decide +kernel
theorem dX5_init_213 : decode cX5_init 213 = .ok (.bipush 18, 2) := by decide +kernel
theorem dX5_init_215 : decode cX5_init 215 = .ok (.ldc 59, 2) := by decide +kernel
theorem dX5_init_217 : decode cX5_init 217 = .ok (.iastore, 1) := by decide +kernel
theorem dX5_init_218 : decode cX5_init 218 = .ok (.putfield 60, 3) := by decide +kernel
theorem dX5_init_221 : decode cX5_init 221 = .ok (.aload_n 0, 1) := by decide +kernel
theorem dX5_init_222 : decode cX5_init 222 = .ok (.sipush 10200, 3) := by decide +kernel
theorem dX5_init_225 : decode cX5_init 225 = .ok (.newarray .int, 2) := by decide +kernel
theorem dX5_init_227 : decode cX5_init 227 = .ok (.putfield 63, 3) := by decide +kernel
theorem dX5_init_230 : decode cX5_init 230 = .ok (.aload_n 0, 1) := by decide +kernel
theorem dX5_init_231 : decode cX5_init 231 = .ok (.sipush 10200, 3) := by decide +kernel
theorem dX5_init_234 : decode cX5_init 234 = .ok (.newarray .int, 2) := by decide +kernel
theorem dX5_init_236 : decode cX5_init 236 = .ok (.putfield 66, 3) := by decide +kernel
theorem dX5_init_239 : decode cX5_init 239 = .ok (.return_, 1) := by decide +kernel
theorem dX5_thrown_0 : decode cX5_thrown 0 = .ok (.aload_n 0, 1) := by decide +kernel
theorem dX5_thrown_1 : decode cX5_thrown 1 = .ok (.getfield 69, 3) := by decide +kernel
theorem dX5_thrown_4 : decode cX5_thrown 4 = .ok (.ireturn, 1) := by decide +kernel
theorem dX5_sign_0 : decode cX5_sign 0 = .ok (.aload_n 0, 1) := by decide +kernel
theorem dX5_sign_1 : decode cX5_sign 1 = .ok (.iconst 0, 1) := by decide +kernel
theorem dX5_sign_2 : decode cX5_sign 2 = .ok (.putfield 69, 3) := by decide +kernel
theorem dX5_sign_5 : decode cX5_sign 5 = .ok (.aload_n 0, 1) := by decide +kernel
theorem dX5_sign_6 : decode cX5_sign 6 = .ok (.getfield 72, 3) := by decide +kernel
theorem dX5_sign_9 : decode cX5_sign 9 = .ok (.bipush 80, 2) := by decide +kernel
theorem dX5_sign_11 : decode cX5_sign 11 = .ok (.if_icmp .ne 4, 3) := by decide +kernel
theorem dX5_sign_14 : decode cX5_sign 14 = .ok (.return_, 1) := by decide +kernel
theorem dX5_sign_15 : decode cX5_sign 15 = .ok (.aload_n 0, 1) := by decide +kernel
theorem dX5_sign_16 : decode cX5_sign 16 = .ok (.getfield 7, 3) := by decide +kernel
theorem dX5_sign_19 : decode cX5_sign 19 = .ok (.aload_n 0, 1) := by decide +kernel
theorem dX5_sign_20 : decode cX5_sign 20 = .ok (.getfield 72, 3) := by decide +kernel
theorem dX5_sign_23 : decode cX5_sign 23 = .ok (.iload_n 1, 1) := by decide +kernel
theorem dX5_sign_24 : decode cX5_sign 24 = .ok (.iastore, 1) := by decide +kernel
theorem dX5_sign_25 : decode cX5_sign 25 = .ok (.aload_n 0, 1) := by decide +kernel
theorem dX5_sign_26 : decode cX5_sign 26 = .ok (.dup, 1) := by decide +kernel
theorem dX5_sign_27 : decode cX5_sign 27 = .ok (.getfield 72, 3) := by decide +kernel
theorem dX5_sign_30 : decode cX5_sign 30 = .ok (.iconst 1, 1) := by decide +kernel
theorem dX5_sign_31 : decode cX5_sign 31 = .ok (.iadd, 1) := by decide +kernel
theorem dX5_sign_32 : decode cX5_sign 32 = .ok (.putfield 72, 3) := by decide +kernel
theorem dX5_sign_35 : decode cX5_sign 35 = .ok (.return_, 1) := by decide +kernel
theorem dX5_at0_0 : decode cX5_at0 0 = .ok (.iload_n 1, 1) := by decide +kernel
theorem dX5_at0_1 : decode cX5_at0 1 = .ok (.aload_n 0, 1) := by decide +kernel
theorem dX5_at0_2 : decode cX5_at0 2 = .ok (.getfield 72, 3) := by decide +kernel
theorem dX5_at0_5 : decode cX5_at0 5 = .ok (.if_icmp .ge 12, 3) := by decide +kernel
theorem dX5_at0_8 : decode cX5_at0 8 = .ok (.aload_n 0, 1) := by decide +kernel
theorem dX5_at0_9 : decode cX5_at0 9 = .ok (.getfield 7, 3) := by decide +kernel
theorem dX5_at0_12 : decode cX5_at0 12 = .ok (.iload_n 1, 1) := by decide +kernel
theorem dX5_at0_13 : decode cX5_at0 13 = .ok (.iaload, 1) := by decide +kernel
theorem dX5_at0_14 : decode cX5_at0 14 = .ok (.goto 4, 3) := by decide +kernel
theorem dX5_at0_17 : decode cX5_at0 17 = .ok (.iconst (-1), 1) := by decide +kernel
theorem dX5_at0_18 : decode cX5_at0 18 = .ok (.ireturn, 1) := by decide +kernel
theorem dX5_great_0 : decode cX5_great 0 = .ok (.iload_n 0, 1) := by decide +kernel
theorem dX5_great_1 : decode cX5_great 1 = .ok (.bipush 97, 2) := by decide +kernel
theorem dX5_great_3 : decode cX5_great 3 = .ok (.if_icmp .lt 16, 3) := by decide +kernel
theorem dX5_great_6 : decode cX5_great 6 = .ok (.iload_n 0, 1) := by decide +kernel
theorem dX5_great_7 : decode cX5_great 7 = .ok (.bipush 122, 2) := by decide +kernel
theorem dX5_great_9 : decode cX5_great 9 = .ok (.if_icmp .gt 10, 3) := by decide +kernel
theorem dX5_great_12 : decode cX5_great 12 = .ok (.iload_n 0, 1) := by decide +kernel
theorem dX5_great_13 : decode cX5_great 13 = .ok (.bipush 32, 2) := by decide +kernel
theorem dX5_great_15 : decode cX5_great 15 = .ok (.isub, 1) := by decide +kernel
theorem dX5_great_16 : decode cX5_great 16 = .ok (.goto 4, 3) := by decide +kernel
theorem dX5_great_19 : decode cX5_great 19 = .ok (.iload_n 0, 1) := by decide +kernel
theorem dX5_great_20 : decode cX5_great 20 = .ok (.ireturn, 1) := by decide +kernel
set_option maxRecDepth 20000 in
theorem ggX5_signAt_X5_at0 : GoodIn wsX5_signAt wsX5_at0 := goodIn_r _ [6, 7, 8, 12, 13, 14, 15, 16, 17, 18, 19, 20, 21, 22, 23, 24, 25, 26, 27, 28, 29, 30, 31, 32, 33, 34, 35] (by decide +kernel) (by decide +kernel)
set_option maxRecDepth 20000 in
theorem gX5_signAt_X5_at0 : GoodIn wsX5_signAt (wsV RX5 75 RX5 yX5_at0 wsX5_at0) := goodIn_app (goodIn_of _ (by decide +kernel)) ggX5_signAt_X5_at0
set_option maxRecDepth 20000 in
theorem ggX5_signAt_X5_great : GoodIn wsX5_signAt wsX5_great := goodIn_r _ [11] (by decide +kernel) (by decide +kernel)
set_option maxRecDepth 20000 in
theorem gX5_signAt_X5_great : GoodIn wsX5_signAt (va_wsS RX5 79 yX5_great wsX5_great) := goodIn_app (goodIn_of _ (by decide +kernel)) ggX5_signAt_X5_great
theorem dX5_signAt_0 : decode cX5_signAt 0 = .ok (.aload_n 0, 1) := by decide +kernel
theorem dX5_signAt_1 : decode cX5_signAt 1 = .ok (.iload_n 1, 1) := by decide +kernel
theorem dX5_signAt_2 : decode cX5_signAt 2 = .ok (.invokevirtual 75, 3) := by decide +kernel
theorem dX5_signAt_5 : decode cX5_signAt 5 = .ok (.istore_n 2, 1) := by decide +kernel
theorem dX5_signAt_6 : decode cX5_signAt 6 = .ok (.iload_n 2, 1) := by decide +kernel
theorem dX5_signAt_7 : decode cX5_signAt 7 = .ok (.aload_n 0, 1) := by decide +kernel
theorem dX5_signAt_8 : decode cX5_signAt 8 = .ok (.getfield 13, 3) := by decide +kernel
theorem dX5_signAt_11 : decode cX5_signAt 11 = .ok (.if_icmp .ne 7, 3) := by decide +kernel
theorem dX5_signAt_14 : decode cX5_signAt 14 = .ok (.sipush 202, 3) := by decide +kernel
theorem dX5_signAt_17 : decode cX5_signAt 17 = .ok (.ireturn, 1) := by decide +kernel
theorem dX5_signAt_18 : decode cX5_signAt 18 = .ok (.iload_n 2, 1) := by decide +kernel
theorem dX5_signAt_19 : decode cX5_signAt 19 = .ok (.invokestatic 79, 3) := by decide +kernel
theorem dX5_signAt_22 : decode cX5_signAt 22 = .ok (.istore_n 3, 1) := by decide +kernel
theorem dX5_signAt_23 : decode cX5_signAt 23 = .ok (.iload_n 3, 1) := by decide +kernel
theorem dX5_signAt_24 : decode cX5_signAt 24 = .ok (.bipush 67, 2) := by decide +kernel
theorem dX5_signAt_26 : decode cX5_signAt 26 = .ok (.if_icmp .ne 26, 3) := by decide +kernel
theorem dX5_signAt_29 : decode cX5_signAt 29 = .ok (.aload_n 0, 1) := by decide +kernel
theorem dX5_signAt_30 : decode cX5_signAt 30 = .ok (.iload_n 1, 1) := by decide +kernel
theorem dX5_signAt_31 : decode cX5_signAt 31 = .ok (.iconst 1, 1) := by decide +kernel
theorem dX5_signAt_32 : decode cX5_signAt 32 = .ok (.iadd, 1) := by decide +kernel
theorem dX5_signAt_33 : decode cX5_signAt 33 = .ok (.invokevirtual 75, 3) := by decide +kernel
theorem dX5_signAt_36 : decode cX5_signAt 36 = .ok (.invokestatic 79, 3) := by decide +kernel
theorem dX5_signAt_39 : decode cX5_signAt 39 = .ok (.bipush 82, 2) := by decide +kernel
theorem dX5_signAt_41 : decode cX5_signAt 41 = .ok (.if_icmp .ne 9, 3) := by decide +kernel
theorem dX5_signAt_44 : decode cX5_signAt 44 = .ok (.sipush 200, 3) := by decide +kernel
theorem dX5_signAt_47 : decode cX5_signAt 47 = .ok (.goto 4, 3) := by decide +kernel
theorem dX5_signAt_50 : decode cX5_signAt 50 = .ok (.iconst (-1), 1) := by decide +kernel
theorem dX5_signAt_51 : decode cX5_signAt 51 = .ok (.ireturn, 1) := by decide +kernel
theorem dX5_signAt_52 : decode cX5_signAt 52 = .ok (.iload_n 3, 1) := by decide +kernel
theorem dX5_signAt_53 : decode cX5_signAt 53 = .ok (.bipush 68, 2) := by decide +kernel
theorem dX5_signAt_55 : decode cX5_signAt 55 = .ok (.if_icmp .ne 26, 3) := by decide +kernel
theorem dX5_signAt_58 : decode cX5_signAt 58 = .ok (.aload_n 0, 1) := by decide +kernel
theorem dX5_signAt_59 : decode cX5_signAt 59 = .ok (.iload_n 1, 1) := by decide +kernel
theorem dX5_signAt_60 : decode cX5_signAt 60 = .ok (.iconst 1, 1) := by decide +kernel
theorem dX5_signAt_61 : decode cX5_signAt 61 = .ok (.iadd, 1) := by decide +kernel
theorem dX5_signAt_62 : decode cX5_signAt 62 = .ok (.invokevirtual 75, 3) := by decide +kernel
theorem dX5_signAt_65 : decode cX5_signAt 65 = .ok (.invokestatic 79, 3) := by decide +kernel
theorem dX5_signAt_68 : decode cX5_signAt 68 = .ok (.bipush 66, 2) := by decide +kernel
theorem dX5_signAt_70 : decode cX5_signAt 70 = .ok (.if_icmp .ne 9, 3) := by decide +kernel
theorem dX5_signAt_73 : decode cX5_signAt 73 = .ok (.sipush 201, 3) := by decide +kernel
theorem dX5_signAt_76 : decode cX5_signAt 76 = .ok (.goto 4, 3) := by decide +kernel
theorem dX5_signAt_79 : decode cX5_signAt 79 = .ok (.iconst (-1), 1) := by decide +kernel
theorem dX5_signAt_80 : decode cX5_signAt 80 = .ok (.ireturn, 1) := by decide +kernel
theorem dX5_signAt_81 : decode cX5_signAt 81 = .ok (.iload_n 3, 1) := by decide +kernel
theorem dX5_signAt_82 : decode cX5_signAt 82 = .ok (.bipush 65, 2) := by decide +kernel
theorem dX5_signAt_84 : decode cX5_signAt 84 = .ok (.if_icmp .eq 93, 3) := by decide +kernel
theorem dX5_signAt_87 : decode cX5_signAt 87 = .ok (.iload_n 3, 1) := by decide +kernel
theorem dX5_signAt_88 : decode cX5_signAt 88 = .ok (.bipush 88, 2) := by decide +kernel
theorem dX5_signAt_90 : decode cX5_signAt 90 = .ok (.if_icmp .eq 87, 3) := by decide +kernel
theorem dX5_signAt_93 : decode cX5_signAt 93 = .ok (.iload_n 3, 1) := by decide +kernel
theorem dX5_signAt_94 : decode cX5_signAt 94 = .ok (.bipush 57, 2) := by decide +kernel
theorem dX5_signAt_96 : decode cX5_signAt 96 = .ok (.if_icmp .eq 81, 3) := by decide +kernel
theorem dX5_signAt_99 : decode cX5_signAt 99 = .ok (.iload_n 3, 1) := by decide +kernel
theorem dX5_signAt_100 : decode cX5_signAt 100 = .ok (.bipush 90, 2) := by decide +kernel
theorem dX5_signAt_102 : decode cX5_signAt 102 = .ok (.if_icmp .eq 75, 3) := by decide +kernel
theorem dX5_signAt_105 : decode cX5_signAt 105 = .ok (.iload_n 3, 1) := by decide +kernel
theorem dX5_signAt_106 : decode cX5_signAt 106 = .ok (.bipush 42, 2) := by decide +kernel
theorem dX5_signAt_108 : decode cX5_signAt 108 = .ok (.if_icmp .eq 69, 3) := by decide +kernel
theorem dX5_signAt_111 : decode cX5_signAt 111 = .ok (.iload_n 3, 1) := by decide +kernel
theorem dX5_signAt_112 : decode cX5_signAt 112 = .ok (.bipush 66, 2) := by decide +kernel
theorem dX5_signAt_114 : decode cX5_signAt 114 = .ok (.if_icmp .eq 63, 3) := by decide +kernel
theorem dX5_signAt_117 : decode cX5_signAt 117 = .ok (.iload_n 3, 1) := by decide +kernel
theorem dX5_signAt_118 : decode cX5_signAt 118 = .ok (.bipush 48, 2) := by decide +kernel
theorem dX5_signAt_120 : decode cX5_signAt 120 = .ok (.if_icmp .eq 57, 3) := by decide +kernel
theorem dX5_signAt_123 : decode cX5_signAt 123 = .ok (.iload_n 3, 1) := by decide +kernel
theorem dX5_signAt_124 : decode cX5_signAt 124 = .ok (.bipush 47, 2) := by decide +kernel
theorem dX5_signAt_126 : decode cX5_signAt 126 = .ok (.if_icmp .eq 51, 3) := by decide +kernel
theorem dX5_signAt_129 : decode cX5_signAt 129 = .ok (.iload_n 3, 1) := by decide +kernel
theorem dX5_signAt_130 : decode cX5_signAt 130 = .ok (.bipush 44, 2) := by decide +kernel
theorem dX5_signAt_132 : decode cX5_signAt 132 = .ok (.if_icmp .eq 45, 3) := by decide +kernel
theorem dX5_signAt_135 : decode cX5_signAt 135 = .ok (.iload_n 3, 1) := by decide +kernel
theorem dX5_signAt_136 : decode cX5_signAt 136 = .ok (.bipush 46, 2) := by decide +kernel
theorem dX5_signAt_138 : decode cX5_signAt 138 = .ok (.if_icmp .eq 39, 3) := by decide +kernel
theorem dX5_signAt_141 : decode cX5_signAt 141 = .ok (.iload_n 3, 1) := by decide +kernel
theorem dX5_signAt_142 : decode cX5_signAt 142 = .ok (.bipush 43, 2) := by decide +kernel
theorem dX5_signAt_144 : decode cX5_signAt 144 = .ok (.if_icmp .eq 33, 3) := by decide +kernel
theorem dX5_signAt_147 : decode cX5_signAt 147 = .ok (.iload_n 3, 1) := by decide +kernel
theorem dX5_signAt_148 : decode cX5_signAt 148 = .ok (.bipush 45, 2) := by decide +kernel
theorem dX5_signAt_150 : decode cX5_signAt 150 = .ok (.if_icmp .eq 27, 3) := by decide +kernel
theorem dX5_signAt_153 : decode cX5_signAt 153 = .ok (.iload_n 3, 1) := by decide +kernel
theorem dX5_signAt_154 : decode cX5_signAt 154 = .ok (.bipush 83, 2) := by decide +kernel
theorem dX5_signAt_156 : decode cX5_signAt 156 = .ok (.if_icmp .eq 21, 3) := by decide +kernel
theorem dX5_signAt_159 : decode cX5_signAt 159 = .ok (.iload_n 3, 1) := by decide +kernel
theorem dX5_signAt_160 : decode cX5_signAt 160 = .ok (.bipush 86, 2) := by decide +kernel
theorem dX5_signAt_162 : decode cX5_signAt 162 = .ok (.if_icmp .eq 15, 3) := by decide +kernel
theorem dX5_signAt_165 : decode cX5_signAt 165 = .ok (.iload_n 3, 1) := by decide +kernel
theorem dX5_signAt_166 : decode cX5_signAt 166 = .ok (.bipush 80, 2) := by decide +kernel
theorem dX5_signAt_168 : decode cX5_signAt 168 = .ok (.if_icmp .eq 9, 3) := by decide +kernel
theorem dX5_signAt_171 : decode cX5_signAt 171 = .ok (.iload_n 3, 1) := by decide +kernel
theorem dX5_signAt_172 : decode cX5_signAt 172 = .ok (.bipush 78, 2) := by decide +kernel
theorem dX5_signAt_174 : decode cX5_signAt 174 = .ok (.if_icmp .ne 7, 3) := by decide +kernel
theorem dX5_signAt_177 : decode cX5_signAt 177 = .ok (.iconst 1, 1) := by decide +kernel
theorem dX5_signAt_178 : decode cX5_signAt 178 = .ok (.goto 4, 3) := by decide +kernel
theorem dX5_signAt_181 : decode cX5_signAt 181 = .ok (.iconst 0, 1) := by decide +kernel
theorem dX5_signAt_182 : decode cX5_signAt 182 = .ok (.istore 4, 2) := by decide +kernel
theorem dX5_signAt_184 : decode cX5_signAt 184 = .ok (.iload 4, 2) := by decide +kernel
theorem dX5_signAt_186 : decode cX5_signAt 186 = .ok (.ifCond .eq 7, 3) := by decide +kernel
theorem dX5_signAt_189 : decode cX5_signAt 189 = .ok (.iload_n 3, 1) := by decide +kernel
theorem dX5_signAt_190 : decode cX5_signAt 190 = .ok (.goto 4, 3) := by decide +kernel
theorem dX5_signAt_193 : decode cX5_signAt 193 = .ok (.iconst (-1), 1) := by decide +kernel
theorem dX5_signAt_194 : decode cX5_signAt 194 = .ok (.ireturn, 1) := by decide +kernel
set_option maxRecDepth 20000 in
theorem ggX5_behindCount_X5_at0 : GoodIn wsX5_behindCount wsX5_at0 := goodIn_r _ [5, 6, 7, 12, 13, 14, 15, 16, 17, 18, 19, 20, 21, 22, 23, 24, 25, 26, 27, 28, 29, 30, 31, 32, 33, 34, 35] (by decide +kernel) (by decide +kernel)
set_option maxRecDepth 20000 in
theorem gX5_behindCount_X5_at0 : GoodIn wsX5_behindCount (wsV RX5 75 RX5 yX5_at0 wsX5_at0) := goodIn_app (goodIn_of _ (by decide +kernel)) ggX5_behindCount_X5_at0
set_option maxRecDepth 20000 in
theorem ggX5_behindCount_X5_counted : GoodIn wsX5_behindCount wsX5_counted := goodIn_r _ [11, 1, 2, 3, 4, 5, 6, 7, 12, 13, 14, 15, 16, 17, 18, 19, 20, 21, 22, 23, 24, 25, 26, 27, 28, 29, 30, 31, 32, 33, 34, 35] (by decide +kernel) (by decide +kernel)
set_option maxRecDepth 20000 in
theorem gX5_behindCount_X5_counted : GoodIn wsX5_behindCount (wsV RX5 82 RX5 yX5_counted wsX5_counted) := goodIn_app (goodIn_of _ (by decide +kernel)) ggX5_behindCount_X5_counted
theorem dX5_behindCount_0 : decode cX5_behindCount 0 = .ok (.iload_n 1, 1) := by decide +kernel
theorem dX5_behindCount_1 : decode cX5_behindCount 1 = .ok (.iconst 1, 1) := by decide +kernel
theorem dX5_behindCount_2 : decode cX5_behindCount 2 = .ok (.iadd, 1) := by decide +kernel
theorem dX5_behindCount_3 : decode cX5_behindCount 3 = .ok (.istore_n 2, 1) := by decide +kernel
theorem dX5_behindCount_4 : decode cX5_behindCount 4 = .ok (.iload_n 2, 1) := by decide +kernel
theorem dX5_behindCount_5 : decode cX5_behindCount 5 = .ok (.iload_n 1, 1) := by decide +kernel
theorem dX5_behindCount_6 : decode cX5_behindCount 6 = .ok (.isub, 1) := by decide +kernel
theorem dX5_behindCount_7 : decode cX5_behindCount 7 = .ok (.bipush 6, 2) := by decide +kernel
theorem dX5_behindCount_9 : decode cX5_behindCount 9 = .ok (.if_icmp .ge 29, 3) := by decide +kernel
theorem dX5_behindCount_12 : decode cX5_behindCount 12 = .ok (.aload_n 0, 1) := by decide +kernel
theorem dX5_behindCount_13 : decode cX5_behindCount 13 = .ok (.iload_n 2, 1) := by decide +kernel
theorem dX5_behindCount_14 : decode cX5_behindCount 14 = .ok (.invokevirtual 75, 3) := by decide +kernel
theorem dX5_behindCount_17 : decode cX5_behindCount 17 = .ok (.bipush 48, 2) := by decide +kernel
theorem dX5_behindCount_19 : decode cX5_behindCount 19 = .ok (.if_icmp .lt 19, 3) := by decide +kernel
theorem dX5_behindCount_22 : decode cX5_behindCount 22 = .ok (.aload_n 0, 1) := by decide +kernel
theorem dX5_behindCount_23 : decode cX5_behindCount 23 = .ok (.iload_n 2, 1) := by decide +kernel
theorem dX5_behindCount_24 : decode cX5_behindCount 24 = .ok (.invokevirtual 75, 3) := by decide +kernel
theorem dX5_behindCount_27 : decode cX5_behindCount 27 = .ok (.bipush 57, 2) := by decide +kernel
theorem dX5_behindCount_29 : decode cX5_behindCount 29 = .ok (.if_icmp .gt 9, 3) := by decide +kernel
theorem dX5_behindCount_32 : decode cX5_behindCount 32 = .ok (.iinc 2 1, 3) := by decide +kernel
theorem dX5_behindCount_35 : decode cX5_behindCount 35 = .ok (.goto (-31), 3) := by decide +kernel
theorem dX5_behindCount_38 : decode cX5_behindCount 38 = .ok (.iload_n 2, 1) := by decide +kernel
theorem dX5_behindCount_39 : decode cX5_behindCount 39 = .ok (.iload_n 1, 1) := by decide +kernel
theorem dX5_behindCount_40 : decode cX5_behindCount 40 = .ok (.iconst 1, 1) := by decide +kernel
theorem dX5_behindCount_41 : decode cX5_behindCount 41 = .ok (.iadd, 1) := by decide +kernel
theorem dX5_behindCount_42 : decode cX5_behindCount 42 = .ok (.if_icmp .le 33, 3) := by decide +kernel
theorem dX5_behindCount_45 : decode cX5_behindCount 45 = .ok (.iload_n 2, 1) := by decide +kernel
theorem dX5_behindCount_46 : decode cX5_behindCount 46 = .ok (.iload_n 1, 1) := by decide +kernel
theorem dX5_behindCount_47 : decode cX5_behindCount 47 = .ok (.isub, 1) := by decide +kernel
theorem dX5_behindCount_48 : decode cX5_behindCount 48 = .ok (.bipush 6, 2) := by decide +kernel
theorem dX5_behindCount_50 : decode cX5_behindCount 50 = .ok (.if_icmp .ge 25, 3) := by decide +kernel
theorem dX5_behindCount_53 : decode cX5_behindCount 53 = .ok (.aload_n 0, 1) := by decide +kernel
theorem dX5_behindCount_54 : decode cX5_behindCount 54 = .ok (.iload_n 2, 1) := by decide +kernel
theorem dX5_behindCount_55 : decode cX5_behindCount 55 = .ok (.invokevirtual 75, 3) := by decide +kernel
theorem dX5_behindCount_58 : decode cX5_behindCount 58 = .ok (.bipush 41, 2) := by decide +kernel
theorem dX5_behindCount_60 : decode cX5_behindCount 60 = .ok (.if_icmp .ne 15, 3) := by decide +kernel
theorem dX5_behindCount_63 : decode cX5_behindCount 63 = .ok (.aload_n 0, 1) := by decide +kernel
theorem dX5_behindCount_64 : decode cX5_behindCount 64 = .ok (.iload_n 1, 1) := by decide +kernel
theorem dX5_behindCount_65 : decode cX5_behindCount 65 = .ok (.invokevirtual 82, 3) := by decide +kernel
theorem dX5_behindCount_68 : decode cX5_behindCount 68 = .ok (.ifCond .le 7, 3) := by decide +kernel
theorem dX5_behindCount_71 : decode cX5_behindCount 71 = .ok (.iconst 1, 1) := by decide +kernel
theorem dX5_behindCount_72 : decode cX5_behindCount 72 = .ok (.goto 4, 3) := by decide +kernel
theorem dX5_behindCount_75 : decode cX5_behindCount 75 = .ok (.iconst 0, 1) := by decide +kernel
theorem dX5_behindCount_76 : decode cX5_behindCount 76 = .ok (.istore_n 3, 1) := by decide +kernel
theorem dX5_behindCount_77 : decode cX5_behindCount 77 = .ok (.iload_n 3, 1) := by decide +kernel
theorem dX5_behindCount_78 : decode cX5_behindCount 78 = .ok (.ifCond .eq 9, 3) := by decide +kernel
theorem dX5_behindCount_81 : decode cX5_behindCount 81 = .ok (.iload_n 2, 1) := by decide +kernel
theorem dX5_behindCount_82 : decode cX5_behindCount 82 = .ok (.iconst 1, 1) := by decide +kernel
theorem dX5_behindCount_83 : decode cX5_behindCount 83 = .ok (.iadd, 1) := by decide +kernel
theorem dX5_behindCount_84 : decode cX5_behindCount 84 = .ok (.goto 4, 3) := by decide +kernel
theorem dX5_behindCount_87 : decode cX5_behindCount 87 = .ok (.iconst (-1), 1) := by decide +kernel
theorem dX5_behindCount_88 : decode cX5_behindCount 88 = .ok (.ireturn, 1) := by decide +kernel
set_option maxRecDepth 20000 in
theorem ggX5_counted_X5_at0 : GoodIn wsX5_counted wsX5_at0 := goodIn_r _ [5, 6, 7, 8, 9, 10, 11, 12, 13, 14, 15, 16, 17, 18, 19, 20, 21, 22, 23, 24, 25, 26, 27, 28, 29, 30, 31] (by decide +kernel) (by decide +kernel)
set_option maxRecDepth 20000 in
theorem gX5_counted_X5_at0 : GoodIn wsX5_counted (wsV RX5 75 RX5 yX5_at0 wsX5_at0) := goodIn_app (goodIn_of _ (by decide +kernel)) ggX5_counted_X5_at0
theorem dX5_counted_0 : decode cX5_counted 0 = .ok (.iconst 0, 1) := by decide +kernel
theorem dX5_counted_1 : decode cX5_counted 1 = .ok (.istore_n 2, 1) := by decide +kernel
theorem dX5_counted_2 : decode cX5_counted 2 = .ok (.iload_n 1, 1) := by decide +kernel
theorem dX5_counted_3 : decode cX5_counted 3 = .ok (.iconst 1, 1) := by decide +kernel
theorem dX5_counted_4 : decode cX5_counted 4 = .ok (.iadd, 1) := by decide +kernel
theorem dX5_counted_5 : decode cX5_counted 5 = .ok (.istore_n 3, 1) := by decide +kernel
theorem dX5_counted_6 : decode cX5_counted 6 = .ok (.iload_n 3, 1) := by decide +kernel
theorem dX5_counted_7 : decode cX5_counted 7 = .ok (.iload_n 1, 1) := by decide +kernel
theorem dX5_counted_8 : decode cX5_counted 8 = .ok (.iconst 5, 1) := by decide +kernel
theorem dX5_counted_9 : decode cX5_counted 9 = .ok (.iadd, 1) := by decide +kernel
theorem dX5_counted_10 : decode cX5_counted 10 = .ok (.if_icmp .ge 43, 3) := by decide +kernel
theorem dX5_counted_13 : decode cX5_counted 13 = .ok (.aload_n 0, 1) := by decide +kernel
theorem dX5_counted_14 : decode cX5_counted 14 = .ok (.iload_n 3, 1) := by decide +kernel
theorem dX5_counted_15 : decode cX5_counted 15 = .ok (.invokevirtual 75, 3) := by decide +kernel
theorem dX5_counted_18 : decode cX5_counted 18 = .ok (.bipush 48, 2) := by decide +kernel
theorem dX5_counted_20 : decode cX5_counted 20 = .ok (.if_icmp .lt 33, 3) := by decide +kernel
theorem dX5_counted_23 : decode cX5_counted 23 = .ok (.aload_n 0, 1) := by decide +kernel
theorem dX5_counted_24 : decode cX5_counted 24 = .ok (.iload_n 3, 1) := by decide +kernel
theorem dX5_counted_25 : decode cX5_counted 25 = .ok (.invokevirtual 75, 3) := by decide +kernel
theorem dX5_counted_28 : decode cX5_counted 28 = .ok (.bipush 57, 2) := by decide +kernel
theorem dX5_counted_30 : decode cX5_counted 30 = .ok (.if_icmp .gt 23, 3) := by decide +kernel
theorem dX5_counted_33 : decode cX5_counted 33 = .ok (.bipush 10, 2) := by decide +kernel
theorem dX5_counted_35 : decode cX5_counted 35 = .ok (.iload_n 2, 1) := by decide +kernel
theorem dX5_counted_36 : decode cX5_counted 36 = .ok (.imul, 1) := by decide +kernel
theorem dX5_counted_37 : decode cX5_counted 37 = .ok (.aload_n 0, 1) := by decide +kernel
theorem dX5_counted_38 : decode cX5_counted 38 = .ok (.iload_n 3, 1) := by decide +kernel
theorem dX5_counted_39 : decode cX5_counted 39 = .ok (.invokevirtual 75, 3) := by decide +kernel
theorem dX5_counted_42 : decode cX5_counted 42 = .ok (.iadd, 1) := by decide +kernel
theorem dX5_counted_43 : decode cX5_counted 43 = .ok (.bipush 48, 2) := by decide +kernel
theorem dX5_counted_45 : decode cX5_counted 45 = .ok (.isub, 1) := by decide +kernel
theorem dX5_counted_46 : decode cX5_counted 46 = .ok (.istore_n 2, 1) := by decide +kernel
theorem dX5_counted_47 : decode cX5_counted 47 = .ok (.iinc 3 1, 3) := by decide +kernel
theorem dX5_counted_50 : decode cX5_counted 50 = .ok (.goto (-44), 3) := by decide +kernel
theorem dX5_counted_53 : decode cX5_counted 53 = .ok (.iload_n 2, 1) := by decide +kernel
theorem dX5_counted_54 : decode cX5_counted 54 = .ok (.ireturn, 1) := by decide +kernel
set_option maxRecDepth 20000 in
theorem ggX5_scan_X5_signAt : GoodIn wsX5_scan wsX5_signAt := goodIn_r _ [12, 13, 14, 15, 16, 11, 17, 5, 18, 19, 20, 21, 30, 31, 32, 33, 34, 35, 36, 37, 38, 39, 40, 41, 42, 43, 44, 45, 46, 47, 48, 49, 50, 51, 52, 53] (by decide +kernel) (by decide +kernel)
set_option maxRecDepth 20000 in
theorem gX5_scan_X5_signAt : GoodIn wsX5_scan (wsV RX5 97 RX5 yX5_signAt wsX5_signAt) := goodIn_app (goodIn_of _ (by decide +kernel)) ggX5_scan_X5_signAt
set_option maxRecDepth 20000 in
theorem ggX5_scan_X5_at0 : GoodIn wsX5_scan wsX5_at0 := goodIn_r _ [17, 5, 18, 30, 31, 32, 33, 34, 35, 36, 37, 38, 39, 40, 41, 42, 43, 44, 45, 46, 47, 48, 49, 50, 51, 52, 53] (by decide +kernel) (by decide +kernel)
set_option maxRecDepth 20000 in
theorem gX5_scan_X5_at0 : GoodIn wsX5_scan (wsV RX5 75 RX5 yX5_at0 wsX5_at0) := goodIn_app (goodIn_of _ (by decide +kernel)) ggX5_scan_X5_at0
set_option maxRecDepth 20000 in
theorem ggX5_scan_X5_behindCount : GoodIn wsX5_scan wsX5_behindCount := goodIn_r _ [25, 14, 15, 16, 11, 17, 5, 18, 26, 27, 28, 29, 30, 31, 32, 33, 34, 35, 36, 37, 38, 39, 40, 41, 42, 43, 44, 45, 46, 47, 48, 49, 50, 51, 52, 53] (by decide +kernel) (by decide +kernel)
set_option maxRecDepth 20000 in
theorem gX5_scan_X5_behindCount : GoodIn wsX5_scan (wsV RX5 100 RX5 yX5_behindCount wsX5_behindCount) := goodIn_app (goodIn_of _ (by decide +kernel)) ggX5_scan_X5_behindCount
set_option maxRecDepth 20000 in
theorem ggX5_scan_X5_counted : GoodIn wsX5_scan wsX5_counted := goodIn_r _ [29, 14, 15, 16, 11, 17, 5, 18, 30, 31, 32, 33, 34, 35, 36, 37, 38, 39, 40, 41, 42, 43, 44, 45, 46, 47, 48, 49, 50, 51, 52, 53] (by decide +kernel) (by decide +kernel)
set_option maxRecDepth 20000 in
theorem gX5_scan_X5_counted : GoodIn wsX5_scan (wsV RX5 82 RX5 yX5_counted wsX5_counted) := goodIn_app (goodIn_of _ (by decide +kernel)) ggX5_scan_X5_counted
theorem dX5_scan_0 : decode cX5_scan 0 = .ok (.aload_n 0, 1) := by decide +kernel
theorem dX5_scan_1 : decode cX5_scan 1 = .ok (.iconst 0, 1) := by decide +kernel
theorem dX5_scan_2 : decode cX5_scan 2 = .ok (.putfield 85, 3) := by decide +kernel
theorem dX5_scan_5 : decode cX5_scan 5 = .ok (.aload_n 0, 1) := by decide +kernel
theorem dX5_scan_6 : decode cX5_scan 6 = .ok (.iconst 0, 1) := by decide +kernel
theorem dX5_scan_7 : decode cX5_scan 7 = .ok (.putfield 88, 3) := by decide +kernel
theorem dX5_scan_10 : decode cX5_scan 10 = .ok (.aload_n 0, 1) := by decide +kernel
theorem dX5_scan_11 : decode cX5_scan 11 = .ok (.iconst 0, 1) := by decide +kernel
theorem dX5_scan_12 : decode cX5_scan 12 = .ok (.putfield 91, 3) := by decide +kernel
theorem dX5_scan_15 : decode cX5_scan 15 = .ok (.aload_n 0, 1) := by decide +kernel
theorem dX5_scan_16 : decode cX5_scan 16 = .ok (.iconst 0, 1) := by decide +kernel
theorem dX5_scan_17 : decode cX5_scan 17 = .ok (.putfield 94, 3) := by decide +kernel
theorem dX5_scan_20 : decode cX5_scan 20 = .ok (.iconst 0, 1) := by decide +kernel
theorem dX5_scan_21 : decode cX5_scan 21 = .ok (.istore_n 1, 1) := by decide +kernel
theorem dX5_scan_22 : decode cX5_scan 22 = .ok (.iload_n 1, 1) := by decide +kernel
theorem dX5_scan_23 : decode cX5_scan 23 = .ok (.aload_n 0, 1) := by decide +kernel
theorem dX5_scan_24 : decode cX5_scan 24 = .ok (.getfield 72, 3) := by decide +kernel
theorem dX5_scan_27 : decode cX5_scan 27 = .ok (.if_icmp .ge 200, 3) := by decide +kernel
theorem dX5_scan_30 : decode cX5_scan 30 = .ok (.aload_n 0, 1) := by decide +kernel
theorem dX5_scan_31 : decode cX5_scan 31 = .ok (.iload_n 1, 1) := by decide +kernel
theorem dX5_scan_32 : decode cX5_scan 32 = .ok (.invokevirtual 97, 3) := by decide +kernel
theorem dX5_scan_35 : decode cX5_scan 35 = .ok (.istore_n 2, 1) := by decide +kernel
theorem dX5_scan_36 : decode cX5_scan 36 = .ok (.iload_n 2, 1) := by decide +kernel
theorem dX5_scan_37 : decode cX5_scan 37 = .ok (.iconst (-1), 1) := by decide +kernel
theorem dX5_scan_38 : decode cX5_scan 38 = .ok (.if_icmp .ne 5, 3) := by decide +kernel
theorem dX5_scan_41 : decode cX5_scan 41 = .ok (.iload_n 1, 1) := by decide +kernel
theorem dX5_scan_42 : decode cX5_scan 42 = .ok (.ireturn, 1) := by decide +kernel
theorem dX5_scan_43 : decode cX5_scan 43 = .ok (.iload_n 1, 1) := by decide +kernel
theorem dX5_scan_44 : decode cX5_scan 44 = .ok (.istore_n 3, 1) := by decide +kernel
theorem dX5_scan_45 : decode cX5_scan 45 = .ok (.iload_n 1, 1) := by decide +kernel
theorem dX5_scan_46 : decode cX5_scan 46 = .ok (.iload_n 2, 1) := by decide +kernel
theorem dX5_scan_47 : decode cX5_scan 47 = .ok (.sipush 200, 3) := by decide +kernel
theorem dX5_scan_50 : decode cX5_scan 50 = .ok (.if_icmp .eq 10, 3) := by decide +kernel
theorem dX5_scan_53 : decode cX5_scan 53 = .ok (.iload_n 2, 1) := by decide +kernel
theorem dX5_scan_54 : decode cX5_scan 54 = .ok (.sipush 201, 3) := by decide +kernel
theorem dX5_scan_57 : decode cX5_scan 57 = .ok (.if_icmp .ne 7, 3) := by decide +kernel
theorem dX5_scan_60 : decode cX5_scan 60 = .ok (.iconst 2, 1) := by decide +kernel
theorem dX5_scan_61 : decode cX5_scan 61 = .ok (.goto 4, 3) := by decide +kernel
theorem dX5_scan_64 : decode cX5_scan 64 = .ok (.iconst 1, 1) := by decide +kernel
theorem dX5_scan_65 : decode cX5_scan 65 = .ok (.iadd, 1) := by decide +kernel
theorem dX5_scan_66 : decode cX5_scan 66 = .ok (.istore_n 1, 1) := by decide +kernel
theorem dX5_scan_67 : decode cX5_scan 67 = .ok (.iconst 1, 1) := by decide +kernel
theorem dX5_scan_68 : decode cX5_scan 68 = .ok (.istore 4, 2) := by decide +kernel
theorem dX5_scan_70 : decode cX5_scan 70 = .ok (.aload_n 0, 1) := by decide +kernel
theorem dX5_scan_71 : decode cX5_scan 71 = .ok (.iload_n 1, 1) := by decide +kernel
theorem dX5_scan_72 : decode cX5_scan 72 = .ok (.invokevirtual 75, 3) := by decide +kernel
theorem dX5_scan_75 : decode cX5_scan 75 = .ok (.bipush 40, 2) := by decide +kernel
theorem dX5_scan_77 : decode cX5_scan 77 = .ok (.if_icmp .ne 27, 3) := by decide +kernel
theorem dX5_scan_80 : decode cX5_scan 80 = .ok (.aload_n 0, 1) := by decide +kernel
theorem dX5_scan_81 : decode cX5_scan 81 = .ok (.iload_n 1, 1) := by decide +kernel
theorem dX5_scan_82 : decode cX5_scan 82 = .ok (.invokevirtual 100, 3) := by decide +kernel
theorem dX5_scan_85 : decode cX5_scan 85 = .ok (.iconst (-1), 1) := by decide +kernel
theorem dX5_scan_86 : decode cX5_scan 86 = .ok (.if_icmp .ne 5, 3) := by decide +kernel
theorem dX5_scan_89 : decode cX5_scan 89 = .ok (.iload_n 1, 1) := by decide +kernel
theorem dX5_scan_90 : decode cX5_scan 90 = .ok (.ireturn, 1) := by decide +kernel
theorem dX5_scan_91 : decode cX5_scan 91 = .ok (.aload_n 0, 1) := by decide +kernel
theorem dX5_scan_92 : decode cX5_scan 92 = .ok (.iload_n 1, 1) := by decide +kernel
theorem dX5_scan_93 : decode cX5_scan 93 = .ok (.invokevirtual 82, 3) := by decide +kernel
theorem dX5_scan_96 : decode cX5_scan 96 = .ok (.istore 4, 2) := by decide +kernel
theorem dX5_scan_98 : decode cX5_scan 98 = .ok (.aload_n 0, 1) := by decide +kernel
theorem dX5_scan_99 : decode cX5_scan 99 = .ok (.iload_n 1, 1) := by decide +kernel
theorem dX5_scan_100 : decode cX5_scan 100 = .ok (.invokevirtual 100, 3) := by decide +kernel
theorem dX5_scan_103 : decode cX5_scan 103 = .ok (.istore_n 1, 1) := by decide +kernel
theorem dX5_scan_104 : decode cX5_scan 104 = .ok (.aload_n 0, 1) := by decide +kernel
theorem dX5_scan_105 : decode cX5_scan 105 = .ok (.dup, 1) := by decide +kernel
theorem dX5_scan_106 : decode cX5_scan 106 = .ok (.getfield 88, 3) := by decide +kernel
theorem dX5_scan_109 : decode cX5_scan 109 = .ok (.iload_n 2, 1) := by decide +kernel
theorem dX5_scan_110 : decode cX5_scan 110 = .ok (.bipush 43, 2) := by decide +kernel
theorem dX5_scan_112 : decode cX5_scan 112 = .ok (.if_icmp .ne 8, 3) := by decide +kernel
theorem dX5_scan_115 : decode cX5_scan 115 = .ok (.iload 4, 2) := by decide +kernel
theorem dX5_scan_117 : decode cX5_scan 117 = .ok (.goto 4, 3) := by decide +kernel
theorem dX5_scan_120 : decode cX5_scan 120 = .ok (.iconst 0, 1) := by decide +kernel
theorem dX5_scan_121 : decode cX5_scan 121 = .ok (.iadd, 1) := by decide +kernel
theorem dX5_scan_122 : decode cX5_scan 122 = .ok (.putfield 88, 3) := by decide +kernel
theorem dX5_scan_125 : decode cX5_scan 125 = .ok (.aload_n 0, 1) := by decide +kernel
theorem dX5_scan_126 : decode cX5_scan 126 = .ok (.dup, 1) := by decide +kernel
theorem dX5_scan_127 : decode cX5_scan 127 = .ok (.getfield 91, 3) := by decide +kernel
theorem dX5_scan_130 : decode cX5_scan 130 = .ok (.iload_n 2, 1) := by decide +kernel
theorem dX5_scan_131 : decode cX5_scan 131 = .ok (.bipush 45, 2) := by decide +kernel
theorem dX5_scan_133 : decode cX5_scan 133 = .ok (.if_icmp .ne 8, 3) := by decide +kernel
theorem dX5_scan_136 : decode cX5_scan 136 = .ok (.iload 4, 2) := by decide +kernel
theorem dX5_scan_138 : decode cX5_scan 138 = .ok (.goto 4, 3) := by decide +kernel
theorem dX5_scan_141 : decode cX5_scan 141 = .ok (.iconst 0, 1) := by decide +kernel
theorem dX5_scan_142 : decode cX5_scan 142 = .ok (.iadd, 1) := by decide +kernel
theorem dX5_scan_143 : decode cX5_scan 143 = .ok (.putfield 91, 3) := by decide +kernel
theorem dX5_scan_146 : decode cX5_scan 146 = .ok (.aload_n 0, 1) := by decide +kernel
theorem dX5_scan_147 : decode cX5_scan 147 = .ok (.dup, 1) := by decide +kernel
theorem dX5_scan_148 : decode cX5_scan 148 = .ok (.getfield 94, 3) := by decide +kernel
theorem dX5_scan_151 : decode cX5_scan 151 = .ok (.iload_n 2, 1) := by decide +kernel
theorem dX5_scan_152 : decode cX5_scan 152 = .ok (.sipush 202, 3) := by decide +kernel
theorem dX5_scan_155 : decode cX5_scan 155 = .ok (.if_icmp .ne 8, 3) := by decide +kernel
theorem dX5_scan_158 : decode cX5_scan 158 = .ok (.iload 4, 2) := by decide +kernel
theorem dX5_scan_160 : decode cX5_scan 160 = .ok (.goto 4, 3) := by decide +kernel
theorem dX5_scan_163 : decode cX5_scan 163 = .ok (.iconst 0, 1) := by decide +kernel
theorem dX5_scan_164 : decode cX5_scan 164 = .ok (.iadd, 1) := by decide +kernel
theorem dX5_scan_165 : decode cX5_scan 165 = .ok (.putfield 94, 3) := by decide +kernel
theorem dX5_scan_168 : decode cX5_scan 168 = .ok (.iconst 0, 1) := by decide +kernel
theorem dX5_scan_169 : decode cX5_scan 169 = .ok (.istore 5, 2) := by decide +kernel
theorem dX5_scan_171 : decode cX5_scan 171 = .ok (.iload 5, 2) := by decide +kernel
theorem dX5_scan_173 : decode cX5_scan 173 = .ok (.iload 4, 2) := by decide +kernel
theorem dX5_scan_175 : decode cX5_scan 175 = .ok (.if_icmp .ge 49, 3) := by decide +kernel
theorem dX5_scan_178 : decode cX5_scan 178 = .ok (.aload_n 0, 1) := by decide +kernel
theorem dX5_scan_179 : decode cX5_scan 179 = .ok (.getfield 85, 3) := by decide +kernel
theorem dX5_scan_182 : decode cX5_scan 182 = .ok (.sipush 10200, 3) := by decide +kernel
theorem dX5_scan_185 : decode cX5_scan 185 = .ok (.if_icmp .ge 39, 3) := by decide +kernel
theorem dX5_scan_188 : decode cX5_scan 188 = .ok (.aload_n 0, 1) := by decide +kernel
theorem dX5_scan_189 : decode cX5_scan 189 = .ok (.getfield 17, 3) := by decide +kernel
theorem dX5_scan_192 : decode cX5_scan 192 = .ok (.aload_n 0, 1) := by decide +kernel
theorem dX5_scan_193 : decode cX5_scan 193 = .ok (.getfield 85, 3) := by decide +kernel
theorem dX5_scan_196 : decode cX5_scan 196 = .ok (.iload_n 2, 1) := by decide +kernel
theorem dX5_scan_197 : decode cX5_scan 197 = .ok (.iastore, 1) := by decide +kernel
theorem dX5_scan_198 : decode cX5_scan 198 = .ok (.aload_n 0, 1) := by decide +kernel
theorem dX5_scan_199 : decode cX5_scan 199 = .ok (.getfield 20, 3) := by decide +kernel
theorem dX5_scan_202 : decode cX5_scan 202 = .ok (.aload_n 0, 1) := by decide +kernel
theorem dX5_scan_203 : decode cX5_scan 203 = .ok (.getfield 85, 3) := by decide +kernel
theorem dX5_scan_206 : decode cX5_scan 206 = .ok (.iload_n 3, 1) := by decide +kernel
theorem dX5_scan_207 : decode cX5_scan 207 = .ok (.iastore, 1) := by decide +kernel
theorem dX5_scan_208 : decode cX5_scan 208 = .ok (.aload_n 0, 1) := by decide +kernel
theorem dX5_scan_209 : decode cX5_scan 209 = .ok (.dup, 1) := by decide +kernel
theorem dX5_scan_210 : decode cX5_scan 210 = .ok (.getfield 85, 3) := by decide +kernel
theorem dX5_scan_213 : decode cX5_scan 213 = .ok (.iconst 1, 1) := by decide +kernel
theorem dX5_scan_214 : decode cX5_scan 214 = .ok (.iadd, 1) := by decide +kernel
theorem dX5_scan_215 : decode cX5_scan 215 = .ok (.putfield 85, 3) := by decide +kernel
theorem dX5_scan_218 : decode cX5_scan 218 = .ok (.iinc 5 1, 3) := by decide +kernel
theorem dX5_scan_221 : decode cX5_scan 221 = .ok (.goto (-50), 3) := by decide +kernel
theorem dX5_scan_224 : decode cX5_scan 224 = .ok (.goto (-202), 3) := by decide +kernel
theorem dX5_scan_227 : decode cX5_scan 227 = .ok (.iconst (-1), 1) := by decide +kernel
theorem dX5_scan_228 : decode cX5_scan 228 = .ok (.ireturn, 1) := by decide +kernel
theorem dX5_sorts_0 : decode cX5_sorts 0 = .ok (.aload_n 0, 1) := by decide +kernel
theorem dX5_sorts_1 : decode cX5_sorts 1 = .ok (.getfield 88, 3) := by decide +kernel
theorem dX5_sorts_4 : decode cX5_sorts 4 = .ok (.iconst 1, 1) := by decide +kernel
theorem dX5_sorts_5 : decode cX5_sorts 5 = .ok (.if_icmp .le 7, 3) := by decide +kernel
theorem dX5_sorts_8 : decode cX5_sorts 8 = .ok (.iconst 1, 1) := by decide +kernel
theorem dX5_sorts_9 : decode cX5_sorts 9 = .ok (.goto 4, 3) := by decide +kernel
theorem dX5_sorts_12 : decode cX5_sorts 12 = .ok (.iconst 0, 1) := by decide +kernel
theorem dX5_sorts_13 : decode cX5_sorts 13 = .ok (.istore_n 1, 1) := by decide +kernel
theorem dX5_sorts_14 : decode cX5_sorts 14 = .ok (.aload_n 0, 1) := by decide +kernel
theorem dX5_sorts_15 : decode cX5_sorts 15 = .ok (.getfield 91, 3) := by decide +kernel
theorem dX5_sorts_18 : decode cX5_sorts 18 = .ok (.iconst 1, 1) := by decide +kernel
theorem dX5_sorts_19 : decode cX5_sorts 19 = .ok (.if_icmp .le 7, 3) := by decide +kernel
theorem dX5_sorts_22 : decode cX5_sorts 22 = .ok (.iconst 1, 1) := by decide +kernel
theorem dX5_sorts_23 : decode cX5_sorts 23 = .ok (.goto 4, 3) := by decide +kernel
theorem dX5_sorts_26 : decode cX5_sorts 26 = .ok (.iconst 0, 1) := by decide +kernel
theorem dX5_sorts_27 : decode cX5_sorts 27 = .ok (.istore_n 2, 1) := by decide +kernel
theorem dX5_sorts_28 : decode cX5_sorts 28 = .ok (.aload_n 0, 1) := by decide +kernel
theorem dX5_sorts_29 : decode cX5_sorts 29 = .ok (.getfield 94, 3) := by decide +kernel
theorem dX5_sorts_32 : decode cX5_sorts 32 = .ok (.iconst 1, 1) := by decide +kernel
theorem dX5_sorts_33 : decode cX5_sorts 33 = .ok (.if_icmp .le 7, 3) := by decide +kernel
theorem dX5_sorts_36 : decode cX5_sorts 36 = .ok (.iconst 1, 1) := by decide +kernel
theorem dX5_sorts_37 : decode cX5_sorts 37 = .ok (.goto 4, 3) := by decide +kernel
theorem dX5_sorts_40 : decode cX5_sorts 40 = .ok (.iconst 0, 1) := by decide +kernel
theorem dX5_sorts_41 : decode cX5_sorts 41 = .ok (.istore_n 3, 1) := by decide +kernel
theorem dX5_sorts_42 : decode cX5_sorts 42 = .ok (.iconst 0, 1) := by decide +kernel
theorem dX5_sorts_43 : decode cX5_sorts 43 = .ok (.istore 4, 2) := by decide +kernel
theorem dX5_sorts_45 : decode cX5_sorts 45 = .ok (.iconst 1, 1) := by decide +kernel
theorem dX5_sorts_46 : decode cX5_sorts 46 = .ok (.istore 5, 2) := by decide +kernel
theorem dX5_sorts_48 : decode cX5_sorts 48 = .ok (.iconst 0, 1) := by decide +kernel
theorem dX5_sorts_49 : decode cX5_sorts 49 = .ok (.istore 6, 2) := by decide +kernel
theorem dX5_sorts_51 : decode cX5_sorts 51 = .ok (.iload 6, 2) := by decide +kernel
theorem dX5_sorts_53 : decode cX5_sorts 53 = .ok (.aload_n 0, 1) := by decide +kernel
theorem dX5_sorts_54 : decode cX5_sorts 54 = .ok (.getfield 85, 3) := by decide +kernel
theorem dX5_sorts_57 : decode cX5_sorts 57 = .ok (.if_icmp .ge 354, 3) := by decide +kernel
theorem dX5_sorts_60 : decode cX5_sorts 60 = .ok (.aload_n 0, 1) := by decide +kernel
theorem dX5_sorts_61 : decode cX5_sorts 61 = .ok (.getfield 17, 3) := by decide +kernel
theorem dX5_sorts_64 : decode cX5_sorts 64 = .ok (.iload 6, 2) := by decide +kernel
theorem dX5_sorts_66 : decode cX5_sorts 66 = .ok (.iaload, 1) := by decide +kernel
theorem dX5_sorts_67 : decode cX5_sorts 67 = .ok (.istore 7, 2) := by decide +kernel
theorem dX5_sorts_69 : decode cX5_sorts 69 = .ok (.iload 4, 2) := by decide +kernel
theorem dX5_sorts_71 : decode cX5_sorts 71 = .ok (.ifCond .eq 7, 3) := by decide +kernel
theorem dX5_sorts_74 : decode cX5_sorts 74 = .ok (.iconst 1, 1) := by decide +kernel
theorem dX5_sorts_75 : decode cX5_sorts 75 = .ok (.goto 4, 3) := by decide +kernel
theorem dX5_sorts_78 : decode cX5_sorts 78 = .ok (.iconst 0, 1) := by decide +kernel
theorem dX5_sorts_79 : decode cX5_sorts 79 = .ok (.istore 8, 2) := by decide +kernel
theorem dX5_sorts_81 : decode cX5_sorts 81 = .ok (.bipush 18, 2) := by decide +kernel
theorem dX5_sorts_83 : decode cX5_sorts 83 = .ok (.istore 9, 2) := by decide +kernel
theorem dX5_sorts_85 : decode cX5_sorts 85 = .ok (.iload 7, 2) := by decide +kernel
theorem dX5_sorts_87 : decode cX5_sorts 87 = .ok (.bipush 66, 2) := by decide +kernel
theorem dX5_sorts_89 : decode cX5_sorts 89 = .ok (.if_icmp .eq 17, 3) := by decide +kernel
theorem dX5_sorts_92 : decode cX5_sorts 92 = .ok (.iload 7, 2) := by decide +kernel
theorem dX5_sorts_94 : decode cX5_sorts 94 = .ok (.bipush 48, 2) := by decide +kernel
theorem dX5_sorts_96 : decode cX5_sorts 96 = .ok (.if_icmp .eq 10, 3) := by decide +kernel
theorem dX5_sorts_99 : decode cX5_sorts 99 = .ok (.iload 7, 2) := by decide +kernel
theorem dX5_sorts_101 : decode cX5_sorts 101 = .ok (.bipush 47, 2) := by decide +kernel
theorem dX5_sorts_103 : decode cX5_sorts 103 = .ok (.if_icmp .ne 6, 3) := by decide +kernel
theorem dX5_sorts_106 : decode cX5_sorts 106 = .ok (.iconst 0, 1) := by decide +kernel
theorem dX5_sorts_107 : decode cX5_sorts 107 = .ok (.istore 9, 2) := by decide +kernel
theorem dX5_sorts_109 : decode cX5_sorts 109 = .ok (.iload 7, 2) := by decide +kernel
theorem dX5_sorts_111 : decode cX5_sorts 111 = .ok (.bipush 44, 2) := by decide +kernel
theorem dX5_sorts_113 : decode cX5_sorts 113 = .ok (.if_icmp .ne 6, 3) := by decide +kernel
theorem dX5_sorts_116 : decode cX5_sorts 116 = .ok (.iconst 1, 1) := by decide +kernel
theorem dX5_sorts_117 : decode cX5_sorts 117 = .ok (.istore 9, 2) := by decide +kernel
theorem dX5_sorts_119 : decode cX5_sorts 119 = .ok (.iload 7, 2) := by decide +kernel
theorem dX5_sorts_121 : decode cX5_sorts 121 = .ok (.bipush 46, 2) := by decide +kernel
theorem dX5_sorts_123 : decode cX5_sorts 123 = .ok (.if_icmp .ne 6, 3) := by decide +kernel
theorem dX5_sorts_126 : decode cX5_sorts 126 = .ok (.iconst 2, 1) := by decide +kernel
theorem dX5_sorts_127 : decode cX5_sorts 127 = .ok (.istore 9, 2) := by decide +kernel
theorem dX5_sorts_129 : decode cX5_sorts 129 = .ok (.iload 7, 2) := by decide +kernel
theorem dX5_sorts_131 : decode cX5_sorts 131 = .ok (.bipush 43, 2) := by decide +kernel
theorem dX5_sorts_133 : decode cX5_sorts 133 = .ok (.if_icmp .ne 27, 3) := by decide +kernel
theorem dX5_sorts_136 : decode cX5_sorts 136 = .ok (.iload_n 1, 1) := by decide +kernel
theorem dX5_sorts_137 : decode cX5_sorts 137 = .ok (.ifCond .eq 11, 3) := by decide +kernel
theorem dX5_sorts_140 : decode cX5_sorts 140 = .ok (.bipush 8, 2) := by decide +kernel
theorem dX5_sorts_142 : decode cX5_sorts 142 = .ok (.iload 8, 2) := by decide +kernel
theorem dX5_sorts_144 : decode cX5_sorts 144 = .ok (.iadd, 1) := by decide +kernel
theorem dX5_sorts_145 : decode cX5_sorts 145 = .ok (.goto 13, 3) := by decide +kernel
theorem dX5_sorts_148 : decode cX5_sorts 148 = .ok (.iload 6, 2) := by decide +kernel
theorem dX5_sorts_150 : decode cX5_sorts 150 = .ok (.ifCond .ne 7, 3) := by decide +kernel
theorem dX5_sorts_153 : decode cX5_sorts 153 = .ok (.iconst 3, 1) := by decide +kernel
theorem dX5_sorts_154 : decode cX5_sorts 154 = .ok (.goto 4, 3) := by decide +kernel
theorem dX5_sorts_157 : decode cX5_sorts 157 = .ok (.iconst 4, 1) := by decide +kernel
theorem dX5_sorts_158 : decode cX5_sorts 158 = .ok (.istore 9, 2) := by decide +kernel
theorem dX5_sorts_160 : decode cX5_sorts 160 = .ok (.iload 7, 2) := by decide +kernel
theorem dX5_sorts_162 : decode cX5_sorts 162 = .ok (.bipush 45, 2) := by decide +kernel
theorem dX5_sorts_164 : decode cX5_sorts 164 = .ok (.if_icmp .ne 27, 3) := by decide +kernel
theorem dX5_sorts_167 : decode cX5_sorts 167 = .ok (.iload_n 2, 1) := by decide +kernel
theorem dX5_sorts_168 : decode cX5_sorts 168 = .ok (.ifCond .eq 11, 3) := by decide +kernel
theorem dX5_sorts_171 : decode cX5_sorts 171 = .ok (.bipush 8, 2) := by decide +kernel
theorem dX5_sorts_173 : decode cX5_sorts 173 = .ok (.iload 8, 2) := by decide +kernel
theorem dX5_sorts_175 : decode cX5_sorts 175 = .ok (.iadd, 1) := by decide +kernel
theorem dX5_sorts_176 : decode cX5_sorts 176 = .ok (.goto 13, 3) := by decide +kernel
theorem dX5_sorts_179 : decode cX5_sorts 179 = .ok (.iload 6, 2) := by decide +kernel
theorem dX5_sorts_181 : decode cX5_sorts 181 = .ok (.ifCond .ne 7, 3) := by decide +kernel
theorem dX5_sorts_184 : decode cX5_sorts 184 = .ok (.iconst 3, 1) := by decide +kernel
theorem dX5_sorts_185 : decode cX5_sorts 185 = .ok (.goto 4, 3) := by decide +kernel
theorem dX5_sorts_188 : decode cX5_sorts 188 = .ok (.iconst 4, 1) := by decide +kernel
theorem dX5_sorts_189 : decode cX5_sorts 189 = .ok (.istore 9, 2) := by decide +kernel
theorem dX5_sorts_191 : decode cX5_sorts 191 = .ok (.iload 7, 2) := by decide +kernel
theorem dX5_sorts_193 : decode cX5_sorts 193 = .ok (.sipush 200, 3) := by decide +kernel
theorem dX5_sorts_196 : decode cX5_sorts 196 = .ok (.if_icmp .eq 11, 3) := by decide +kernel
theorem dX5_sorts_199 : decode cX5_sorts 199 = .ok (.iload 7, 2) := by decide +kernel
theorem dX5_sorts_201 : decode cX5_sorts 201 = .ok (.sipush 201, 3) := by decide +kernel
theorem dX5_sorts_204 : decode cX5_sorts 204 = .ok (.if_icmp .ne 6, 3) := by decide +kernel
theorem dX5_sorts_207 : decode cX5_sorts 207 = .ok (.iconst 4, 1) := by decide +kernel
theorem dX5_sorts_208 : decode cX5_sorts 208 = .ok (.istore 9, 2) := by decide +kernel
theorem dX5_sorts_210 : decode cX5_sorts 210 = .ok (.iload 7, 2) := by decide +kernel
theorem dX5_sorts_212 : decode cX5_sorts 212 = .ok (.sipush 202, 3) := by decide +kernel
theorem dX5_sorts_215 : decode cX5_sorts 215 = .ok (.if_icmp .ne 18, 3) := by decide +kernel
theorem dX5_sorts_218 : decode cX5_sorts 218 = .ok (.iload_n 3, 1) := by decide +kernel
theorem dX5_sorts_219 : decode cX5_sorts 219 = .ok (.ifCond .eq 11, 3) := by decide +kernel
theorem dX5_sorts_222 : decode cX5_sorts 222 = .ok (.bipush 10, 2) := by decide +kernel
theorem dX5_sorts_224 : decode cX5_sorts 224 = .ok (.iload 8, 2) := by decide +kernel
theorem dX5_sorts_226 : decode cX5_sorts 226 = .ok (.iadd, 1) := by decide +kernel
theorem dX5_sorts_227 : decode cX5_sorts 227 = .ok (.goto 4, 3) := by decide +kernel
theorem dX5_sorts_230 : decode cX5_sorts 230 = .ok (.iconst 5, 1) := by decide +kernel
theorem dX5_sorts_231 : decode cX5_sorts 231 = .ok (.istore 9, 2) := by decide +kernel
theorem dX5_sorts_233 : decode cX5_sorts 233 = .ok (.iload 7, 2) := by decide +kernel
theorem dX5_sorts_235 : decode cX5_sorts 235 = .ok (.bipush 90, 2) := by decide +kernel
theorem dX5_sorts_237 : decode cX5_sorts 237 = .ok (.if_icmp .eq 10, 3) := by decide +kernel
theorem dX5_sorts_240 : decode cX5_sorts 240 = .ok (.iload 7, 2) := by decide +kernel
theorem dX5_sorts_242 : decode cX5_sorts 242 = .ok (.bipush 42, 2) := by decide +kernel
theorem dX5_sorts_244 : decode cX5_sorts 244 = .ok (.if_icmp .ne 10, 3) := by decide +kernel
theorem dX5_sorts_247 : decode cX5_sorts 247 = .ok (.bipush 6, 2) := by decide +kernel
theorem dX5_sorts_249 : decode cX5_sorts 249 = .ok (.iload 8, 2) := by decide +kernel
theorem dX5_sorts_251 : decode cX5_sorts 251 = .ok (.iadd, 1) := by decide +kernel
theorem dX5_sorts_252 : decode cX5_sorts 252 = .ok (.istore 9, 2) := by decide +kernel
theorem dX5_sorts_254 : decode cX5_sorts 254 = .ok (.iload 7, 2) := by decide +kernel
theorem dX5_sorts_256 : decode cX5_sorts 256 = .ok (.bipush 57, 2) := by decide +kernel
theorem dX5_sorts_258 : decode cX5_sorts 258 = .ok (.if_icmp .ne 7, 3) := by decide +kernel
theorem dX5_sorts_261 : decode cX5_sorts 261 = .ok (.bipush 12, 2) := by decide +kernel
theorem dX5_sorts_263 : decode cX5_sorts 263 = .ok (.istore 9, 2) := by decide +kernel
theorem dX5_sorts_265 : decode cX5_sorts 265 = .ok (.iload 7, 2) := by decide +kernel
theorem dX5_sorts_267 : decode cX5_sorts 267 = .ok (.bipush 65, 2) := by decide +kernel
theorem dX5_sorts_269 : decode cX5_sorts 269 = .ok (.if_icmp .eq 10, 3) := by decide +kernel
theorem dX5_sorts_272 : decode cX5_sorts 272 = .ok (.iload 7, 2) := by decide +kernel
theorem dX5_sorts_274 : decode cX5_sorts 274 = .ok (.bipush 88, 2) := by decide +kernel
theorem dX5_sorts_276 : decode cX5_sorts 276 = .ok (.if_icmp .ne 7, 3) := by decide +kernel
theorem dX5_sorts_279 : decode cX5_sorts 279 = .ok (.bipush 13, 2) := by decide +kernel
theorem dX5_sorts_281 : decode cX5_sorts 281 = .ok (.istore 9, 2) := by decide +kernel
theorem dX5_sorts_283 : decode cX5_sorts 283 = .ok (.iload 7, 2) := by decide +kernel
theorem dX5_sorts_285 : decode cX5_sorts 285 = .ok (.bipush 83, 2) := by decide +kernel
theorem dX5_sorts_287 : decode cX5_sorts 287 = .ok (.if_icmp .ne 7, 3) := by decide +kernel
theorem dX5_sorts_290 : decode cX5_sorts 290 = .ok (.bipush 14, 2) := by decide +kernel
theorem dX5_sorts_292 : decode cX5_sorts 292 = .ok (.istore 9, 2) := by decide +kernel
theorem dX5_sorts_294 : decode cX5_sorts 294 = .ok (.iload 7, 2) := by decide +kernel
theorem dX5_sorts_296 : decode cX5_sorts 296 = .ok (.bipush 86, 2) := by decide +kernel
theorem dX5_sorts_298 : decode cX5_sorts 298 = .ok (.if_icmp .ne 7, 3) := by decide +kernel
theorem dX5_sorts_301 : decode cX5_sorts 301 = .ok (.bipush 15, 2) := by decide +kernel
theorem dX5_sorts_303 : decode cX5_sorts 303 = .ok (.istore 9, 2) := by decide +kernel
theorem dX5_sorts_305 : decode cX5_sorts 305 = .ok (.iload 7, 2) := by decide +kernel
theorem dX5_sorts_307 : decode cX5_sorts 307 = .ok (.bipush 80, 2) := by decide +kernel
theorem dX5_sorts_309 : decode cX5_sorts 309 = .ok (.if_icmp .ne 17, 3) := by decide +kernel
theorem dX5_sorts_312 : decode cX5_sorts 312 = .ok (.iload 5, 2) := by decide +kernel
theorem dX5_sorts_314 : decode cX5_sorts 314 = .ok (.ifCond .eq 8, 3) := by decide +kernel
theorem dX5_sorts_317 : decode cX5_sorts 317 = .ok (.bipush 16, 2) := by decide +kernel
theorem dX5_sorts_319 : decode cX5_sorts 319 = .ok (.goto 5, 3) := by decide +kernel
theorem dX5_sorts_322 : decode cX5_sorts 322 = .ok (.bipush 17, 2) := by decide +kernel
theorem dX5_sorts_324 : decode cX5_sorts 324 = .ok (.istore 9, 2) := by decide +kernel
theorem dX5_sorts_326 : decode cX5_sorts 326 = .ok (.aload_n 0, 1) := by decide +kernel
theorem dX5_sorts_327 : decode cX5_sorts 327 = .ok (.getfield 23, 3) := by decide +kernel
theorem dX5_sorts_330 : decode cX5_sorts 330 = .ok (.iload 6, 2) := by decide +kernel
theorem dX5_sorts_332 : decode cX5_sorts 332 = .ok (.iload 9, 2) := by decide +kernel
theorem dX5_sorts_334 : decode cX5_sorts 334 = .ok (.iastore, 1) := by decide +kernel
theorem dX5_sorts_335 : decode cX5_sorts 335 = .ok (.iload 4, 2) := by decide +kernel
theorem dX5_sorts_337 : decode cX5_sorts 337 = .ok (.ifCond .ne 23, 3) := by decide +kernel
theorem dX5_sorts_340 : decode cX5_sorts 340 = .ok (.iload 9, 2) := by decide +kernel
theorem dX5_sorts_342 : decode cX5_sorts 342 = .ok (.iconst 2, 1) := by decide +kernel
theorem dX5_sorts_343 : decode cX5_sorts 343 = .ok (.if_icmp .eq 17, 3) := by decide +kernel
theorem dX5_sorts_346 : decode cX5_sorts 346 = .ok (.iload 9, 2) := by decide +kernel
theorem dX5_sorts_348 : decode cX5_sorts 348 = .ok (.bipush 15, 2) := by decide +kernel
theorem dX5_sorts_350 : decode cX5_sorts 350 = .ok (.if_icmp .eq 10, 3) := by decide +kernel
theorem dX5_sorts_353 : decode cX5_sorts 353 = .ok (.iload 9, 2) := by decide +kernel
theorem dX5_sorts_355 : decode cX5_sorts 355 = .ok (.bipush 16, 2) := by decide +kernel
theorem dX5_sorts_357 : decode cX5_sorts 357 = .ok (.if_icmp .ne 7, 3) := by decide +kernel
theorem dX5_sorts_360 : decode cX5_sorts 360 = .ok (.iconst 1, 1) := by decide +kernel
theorem dX5_sorts_361 : decode cX5_sorts 361 = .ok (.goto 4, 3) := by decide +kernel
theorem dX5_sorts_364 : decode cX5_sorts 364 = .ok (.iconst 0, 1) := by decide +kernel
theorem dX5_sorts_365 : decode cX5_sorts 365 = .ok (.istore 4, 2) := by decide +kernel
theorem dX5_sorts_367 : decode cX5_sorts 367 = .ok (.iload 5, 2) := by decide +kernel
theorem dX5_sorts_369 : decode cX5_sorts 369 = .ok (.ifCond .eq 33, 3) := by decide +kernel
theorem dX5_sorts_372 : decode cX5_sorts 372 = .ok (.iload 9, 2) := by decide +kernel
theorem dX5_sorts_374 : decode cX5_sorts 374 = .ok (.iconst 3, 1) := by decide +kernel
theorem dX5_sorts_375 : decode cX5_sorts 375 = .ok (.if_icmp .eq 23, 3) := by decide +kernel
theorem dX5_sorts_378 : decode cX5_sorts 378 = .ok (.iload 9, 2) := by decide +kernel
theorem dX5_sorts_380 : decode cX5_sorts 380 = .ok (.iconst 5, 1) := by decide +kernel
theorem dX5_sorts_381 : decode cX5_sorts 381 = .ok (.if_icmp .eq 17, 3) := by decide +kernel
theorem dX5_sorts_384 : decode cX5_sorts 384 = .ok (.iload 9, 2) := by decide +kernel
theorem dX5_sorts_386 : decode cX5_sorts 386 = .ok (.bipush 13, 2) := by decide +kernel
theorem dX5_sorts_388 : decode cX5_sorts 388 = .ok (.if_icmp .le 14, 3) := by decide +kernel
theorem dX5_sorts_391 : decode cX5_sorts 391 = .ok (.iload 9, 2) := by decide +kernel
theorem dX5_sorts_393 : decode cX5_sorts 393 = .ok (.bipush 17, 2) := by decide +kernel
theorem dX5_sorts_395 : decode cX5_sorts 395 = .ok (.if_icmp .ge 7, 3) := by decide +kernel
theorem dX5_sorts_398 : decode cX5_sorts 398 = .ok (.iconst 1, 1) := by decide +kernel
theorem dX5_sorts_399 : decode cX5_sorts 399 = .ok (.goto 4, 3) := by decide +kernel
theorem dX5_sorts_402 : decode cX5_sorts 402 = .ok (.iconst 0, 1) := by decide +kernel
theorem dX5_sorts_403 : decode cX5_sorts 403 = .ok (.istore 5, 2) := by decide +kernel
theorem dX5_sorts_405 : decode cX5_sorts 405 = .ok (.iinc 6 1, 3) := by decide +kernel
theorem dX5_sorts_408 : decode cX5_sorts 408 = .ok (.goto (-357), 3) := by decide +kernel
theorem dX5_sorts_411 : decode cX5_sorts 411 = .ok (.return_, 1) := by decide +kernel
theorem dX5_isDigit_0 : decode cX5_isDigit 0 = .ok (.aload_n 0, 1) := by decide +kernel
theorem dX5_isDigit_1 : decode cX5_isDigit 1 = .ok (.getfield 23, 3) := by decide +kernel
theorem dX5_isDigit_4 : decode cX5_isDigit 4 = .ok (.iload_n 1, 1) := by decide +kernel
theorem dX5_isDigit_5 : decode cX5_isDigit 5 = .ok (.iaload, 1) := by decide +kernel
theorem dX5_isDigit_6 : decode cX5_isDigit 6 = .ok (.istore_n 2, 1) := by decide +kernel
theorem dX5_isDigit_7 : decode cX5_isDigit 7 = .ok (.iload_n 2, 1) := by decide +kernel
theorem dX5_isDigit_8 : decode cX5_isDigit 8 = .ok (.bipush 12, 2) := by decide +kernel
theorem dX5_isDigit_10 : decode cX5_isDigit 10 = .ok (.if_icmp .eq 27, 3) := by decide +kernel
theorem dX5_isDigit_13 : decode cX5_isDigit 13 = .ok (.iload_n 2, 1) := by decide +kernel
theorem dX5_isDigit_14 : decode cX5_isDigit 14 = .ok (.bipush 6, 2) := by decide +kernel
theorem dX5_isDigit_16 : decode cX5_isDigit 16 = .ok (.if_icmp .eq 21, 3) := by decide +kernel
theorem dX5_isDigit_19 : decode cX5_isDigit 19 = .ok (.iload_n 2, 1) := by decide +kernel
theorem dX5_isDigit_20 : decode cX5_isDigit 20 = .ok (.bipush 7, 2) := by decide +kernel
theorem dX5_isDigit_22 : decode cX5_isDigit 22 = .ok (.if_icmp .eq 15, 3) := by decide +kernel
theorem dX5_isDigit_25 : decode cX5_isDigit 25 = .ok (.iload_n 2, 1) := by decide +kernel
theorem dX5_isDigit_26 : decode cX5_isDigit 26 = .ok (.bipush 16, 2) := by decide +kernel
theorem dX5_isDigit_28 : decode cX5_isDigit 28 = .ok (.if_icmp .eq 9, 3) := by decide +kernel
theorem dX5_isDigit_31 : decode cX5_isDigit 31 = .ok (.iload_n 2, 1) := by decide +kernel
theorem dX5_isDigit_32 : decode cX5_isDigit 32 = .ok (.bipush 17, 2) := by decide +kernel
theorem dX5_isDigit_34 : decode cX5_isDigit 34 = .ok (.if_icmp .ne 5, 3) := by decide +kernel
theorem dX5_isDigit_37 : decode cX5_isDigit 37 = .ok (.iconst 1, 1) := by decide +kernel
theorem dX5_isDigit_38 : decode cX5_isDigit 38 = .ok (.ireturn, 1) := by decide +kernel
theorem dX5_isDigit_39 : decode cX5_isDigit 39 = .ok (.iload_n 2, 1) := by decide +kernel
theorem dX5_isDigit_40 : decode cX5_isDigit 40 = .ok (.bipush 8, 2) := by decide +kernel
theorem dX5_isDigit_42 : decode cX5_isDigit 42 = .ok (.if_icmp .lt 9, 3) := by decide +kernel
theorem dX5_isDigit_45 : decode cX5_isDigit 45 = .ok (.iload_n 2, 1) := by decide +kernel
theorem dX5_isDigit_46 : decode cX5_isDigit 46 = .ok (.bipush 11, 2) := by decide +kernel
theorem dX5_isDigit_48 : decode cX5_isDigit 48 = .ok (.if_icmp .le 5, 3) := by decide +kernel
theorem dX5_isDigit_51 : decode cX5_isDigit 51 = .ok (.iconst 0, 1) := by decide +kernel
theorem dX5_isDigit_52 : decode cX5_isDigit 52 = .ok (.ireturn, 1) := by decide +kernel
theorem dX5_isDigit_53 : decode cX5_isDigit 53 = .ok (.iconst 1, 1) := by decide +kernel
theorem dX5_isDigit_54 : decode cX5_isDigit 54 = .ok (.istore_n 3, 1) := by decide +kernel
theorem dX5_isDigit_55 : decode cX5_isDigit 55 = .ok (.iconst 0, 1) := by decide +kernel
theorem dX5_isDigit_56 : decode cX5_isDigit 56 = .ok (.istore 4, 2) := by decide +kernel
theorem dX5_isDigit_58 : decode cX5_isDigit 58 = .ok (.iload 4, 2) := by decide +kernel
theorem dX5_isDigit_60 : decode cX5_isDigit 60 = .ok (.iload_n 1, 1) := by decide +kernel
theorem dX5_isDigit_61 : decode cX5_isDigit 61 = .ok (.if_icmp .ge 35, 3) := by decide +kernel
theorem dX5_isDigit_64 : decode cX5_isDigit 64 = .ok (.iload_n 3, 1) := by decide +kernel
theorem dX5_isDigit_65 : decode cX5_isDigit 65 = .ok (.ifCond .eq 23, 3) := by decide +kernel
theorem dX5_isDigit_68 : decode cX5_isDigit 68 = .ok (.aload_n 0, 1) := by decide +kernel
theorem dX5_isDigit_69 : decode cX5_isDigit 69 = .ok (.getfield 17, 3) := by decide +kernel
theorem dX5_isDigit_72 : decode cX5_isDigit 72 = .ok (.iload 4, 2) := by decide +kernel
theorem dX5_isDigit_74 : decode cX5_isDigit 74 = .ok (.iaload, 1) := by decide +kernel
theorem dX5_isDigit_75 : decode cX5_isDigit 75 = .ok (.aload_n 0, 1) := by decide +kernel
theorem dX5_isDigit_76 : decode cX5_isDigit 76 = .ok (.getfield 17, 3) := by decide +kernel
theorem dX5_isDigit_79 : decode cX5_isDigit 79 = .ok (.iload_n 1, 1) := by decide +kernel
theorem dX5_isDigit_80 : decode cX5_isDigit 80 = .ok (.iaload, 1) := by decide +kernel
theorem dX5_isDigit_81 : decode cX5_isDigit 81 = .ok (.if_icmp .eq 7, 3) := by decide +kernel
theorem dX5_isDigit_84 : decode cX5_isDigit 84 = .ok (.iconst 1, 1) := by decide +kernel
theorem dX5_isDigit_85 : decode cX5_isDigit 85 = .ok (.goto 4, 3) := by decide +kernel
theorem dX5_isDigit_88 : decode cX5_isDigit 88 = .ok (.iconst 0, 1) := by decide +kernel
theorem dX5_isDigit_89 : decode cX5_isDigit 89 = .ok (.istore_n 3, 1) := by decide +kernel
theorem dX5_isDigit_90 : decode cX5_isDigit 90 = .ok (.iinc 4 1, 3) := by decide +kernel
theorem dX5_isDigit_93 : decode cX5_isDigit 93 = .ok (.goto (-35), 3) := by decide +kernel
theorem dX5_isDigit_96 : decode cX5_isDigit 96 = .ok (.iload_n 3, 1) := by decide +kernel
theorem dX5_isDigit_97 : decode cX5_isDigit 97 = .ok (.ifCond .ne 7, 3) := by decide +kernel
theorem dX5_isDigit_100 : decode cX5_isDigit 100 = .ok (.iconst 1, 1) := by decide +kernel
theorem dX5_isDigit_101 : decode cX5_isDigit 101 = .ok (.goto 4, 3) := by decide +kernel
theorem dX5_isDigit_104 : decode cX5_isDigit 104 = .ok (.iconst 0, 1) := by decide +kernel
theorem dX5_isDigit_105 : decode cX5_isDigit 105 = .ok (.ireturn, 1) := by decide +kernel
theorem dX5_width_0 : decode cX5_width 0 = .ok (.iload_n 0, 1) := by decide +kernel
theorem dX5_width_1 : decode cX5_width 1 = .ok (.sipush 200, 3) := by decide +kernel
theorem dX5_width_4 : decode cX5_width 4 = .ok (.if_icmp .eq 10, 3) := by decide +kernel
theorem dX5_width_7 : decode cX5_width 7 = .ok (.iload_n 0, 1) := by decide +kernel
theorem dX5_width_8 : decode cX5_width 8 = .ok (.sipush 201, 3) := by decide +kernel
theorem dX5_width_11 : decode cX5_width 11 = .ok (.if_icmp .ne 7, 3) := by decide +kernel
theorem dX5_width_14 : decode cX5_width 14 = .ok (.iconst 2, 1) := by decide +kernel
theorem dX5_width_15 : decode cX5_width 15 = .ok (.goto 26, 3) := by decide +kernel
theorem dX5_width_18 : decode cX5_width 18 = .ok (.iload_n 0, 1) := by decide +kernel
theorem dX5_width_19 : decode cX5_width 19 = .ok (.bipush 83, 2) := by decide +kernel
theorem dX5_width_21 : decode cX5_width 21 = .ok (.if_icmp .eq 15, 3) := by decide +kernel
theorem dX5_width_24 : decode cX5_width 24 = .ok (.iload_n 0, 1) := by decide +kernel
theorem dX5_width_25 : decode cX5_width 25 = .ok (.bipush 86, 2) := by decide +kernel
theorem dX5_width_27 : decode cX5_width 27 = .ok (.if_icmp .eq 9, 3) := by decide +kernel
theorem dX5_width_30 : decode cX5_width 30 = .ok (.iload_n 0, 1) := by decide +kernel
theorem dX5_width_31 : decode cX5_width 31 = .ok (.bipush 80, 2) := by decide +kernel
theorem dX5_width_33 : decode cX5_width 33 = .ok (.if_icmp .ne 7, 3) := by decide +kernel
theorem dX5_width_36 : decode cX5_width 36 = .ok (.iconst 0, 1) := by decide +kernel
theorem dX5_width_37 : decode cX5_width 37 = .ok (.goto 4, 3) := by decide +kernel
theorem dX5_width_40 : decode cX5_width 40 = .ok (.iconst 1, 1) := by decide +kernel
theorem dX5_width_41 : decode cX5_width 41 = .ok (.ireturn, 1) := by decide +kernel
theorem dX5_isWrong_0 : decode cX5_isWrong 0 = .ok (.iconst 0, 1) := by decide +kernel
theorem dX5_isWrong_1 : decode cX5_isWrong 1 = .ok (.istore_n 2, 1) := by decide +kernel
theorem dX5_isWrong_2 : decode cX5_isWrong 2 = .ok (.iconst 0, 1) := by decide +kernel
theorem dX5_isWrong_3 : decode cX5_isWrong 3 = .ok (.istore_n 3, 1) := by decide +kernel
theorem dX5_isWrong_4 : decode cX5_isWrong 4 = .ok (.iconst 0, 1) := by decide +kernel
theorem dX5_isWrong_5 : decode cX5_isWrong 5 = .ok (.istore 4, 2) := by decide +kernel
theorem dX5_isWrong_7 : decode cX5_isWrong 7 = .ok (.iconst 0, 1) := by decide +kernel
theorem dX5_isWrong_8 : decode cX5_isWrong 8 = .ok (.istore 5, 2) := by decide +kernel
theorem dX5_isWrong_10 : decode cX5_isWrong 10 = .ok (.iconst 0, 1) := by decide +kernel
theorem dX5_isWrong_11 : decode cX5_isWrong 11 = .ok (.istore 6, 2) := by decide +kernel
theorem dX5_isWrong_13 : decode cX5_isWrong 13 = .ok (.iconst 0, 1) := by decide +kernel
theorem dX5_isWrong_14 : decode cX5_isWrong 14 = .ok (.istore 7, 2) := by decide +kernel
theorem dX5_isWrong_16 : decode cX5_isWrong 16 = .ok (.iload 7, 2) := by decide +kernel
theorem dX5_isWrong_18 : decode cX5_isWrong 18 = .ok (.iload_n 1, 1) := by decide +kernel
theorem dX5_isWrong_19 : decode cX5_isWrong 19 = .ok (.if_icmp .ge 135, 3) := by decide +kernel
theorem dX5_isWrong_22 : decode cX5_isWrong 22 = .ok (.iload_n 2, 1) := by decide +kernel
theorem dX5_isWrong_23 : decode cX5_isWrong 23 = .ok (.aload_n 0, 1) := by decide +kernel
theorem dX5_isWrong_24 : decode cX5_isWrong 24 = .ok (.getfield 60, 3) := by decide +kernel
theorem dX5_isWrong_27 : decode cX5_isWrong 27 = .ok (.aload_n 0, 1) := by decide +kernel
theorem dX5_isWrong_28 : decode cX5_isWrong 28 = .ok (.getfield 23, 3) := by decide +kernel
theorem dX5_isWrong_31 : decode cX5_isWrong 31 = .ok (.iload 7, 2) := by decide +kernel
theorem dX5_isWrong_33 : decode cX5_isWrong 33 = .ok (.iaload, 1) := by decide +kernel
theorem dX5_isWrong_34 : decode cX5_isWrong 34 = .ok (.iaload, 1) := by decide +kernel
theorem dX5_isWrong_35 : decode cX5_isWrong 35 = .ok (.aload_n 0, 1) := by decide +kernel
theorem dX5_isWrong_36 : decode cX5_isWrong 36 = .ok (.getfield 23, 3) := by decide +kernel
theorem dX5_isWrong_39 : decode cX5_isWrong 39 = .ok (.iload_n 1, 1) := by decide +kernel
theorem dX5_isWrong_40 : decode cX5_isWrong 40 = .ok (.iaload, 1) := by decide +kernel
theorem dX5_isWrong_41 : decode cX5_isWrong 41 = .ok (.ishr, 1) := by decide +kernel
theorem dX5_isWrong_42 : decode cX5_isWrong 42 = .ok (.iconst 1, 1) := by decide +kernel
theorem dX5_isWrong_43 : decode cX5_isWrong 43 = .ok (.iand, 1) := by decide +kernel
theorem dX5_isWrong_44 : decode cX5_isWrong 44 = .ok (.ifCond .ne 7, 3) := by decide +kernel
theorem dX5_isWrong_47 : decode cX5_isWrong 47 = .ok (.iconst 1, 1) := by decide +kernel
theorem dX5_isWrong_48 : decode cX5_isWrong 48 = .ok (.goto 4, 3) := by decide +kernel
theorem dX5_isWrong_51 : decode cX5_isWrong 51 = .ok (.iconst 0, 1) := by decide +kernel
theorem dX5_isWrong_52 : decode cX5_isWrong 52 = .ok (.ior, 1) := by decide +kernel
theorem dX5_isWrong_53 : decode cX5_isWrong 53 = .ok (.istore_n 2, 1) := by decide +kernel
theorem dX5_isWrong_54 : decode cX5_isWrong 54 = .ok (.iload_n 3, 1) := by decide +kernel
theorem dX5_isWrong_55 : decode cX5_isWrong 55 = .ok (.ifCond .ne 15, 3) := by decide +kernel
theorem dX5_isWrong_58 : decode cX5_isWrong 58 = .ok (.aload_n 0, 1) := by decide +kernel
theorem dX5_isWrong_59 : decode cX5_isWrong 59 = .ok (.getfield 17, 3) := by decide +kernel
theorem dX5_isWrong_62 : decode cX5_isWrong 62 = .ok (.iload 7, 2) := by decide +kernel
theorem dX5_isWrong_64 : decode cX5_isWrong 64 = .ok (.iaload, 1) := by decide +kernel
theorem dX5_isWrong_65 : decode cX5_isWrong 65 = .ok (.bipush 90, 2) := by decide +kernel
theorem dX5_isWrong_67 : decode cX5_isWrong 67 = .ok (.if_icmp .ne 7, 3) := by decide +kernel
theorem dX5_isWrong_70 : decode cX5_isWrong 70 = .ok (.iconst 1, 1) := by decide +kernel
theorem dX5_isWrong_71 : decode cX5_isWrong 71 = .ok (.goto 4, 3) := by decide +kernel
theorem dX5_isWrong_74 : decode cX5_isWrong 74 = .ok (.iconst 0, 1) := by decide +kernel
theorem dX5_isWrong_75 : decode cX5_isWrong 75 = .ok (.istore_n 3, 1) := by decide +kernel
theorem dX5_isWrong_76 : decode cX5_isWrong 76 = .ok (.iload 4, 2) := by decide +kernel
theorem dX5_isWrong_78 : decode cX5_isWrong 78 = .ok (.ifCond .ne 15, 3) := by decide +kernel
theorem dX5_isWrong_81 : decode cX5_isWrong 81 = .ok (.aload_n 0, 1) := by decide +kernel
theorem dX5_isWrong_82 : decode cX5_isWrong 82 = .ok (.getfield 17, 3) := by decide +kernel
theorem dX5_isWrong_85 : decode cX5_isWrong 85 = .ok (.iload 7, 2) := by decide +kernel
theorem dX5_isWrong_87 : decode cX5_isWrong 87 = .ok (.iaload, 1) := by decide +kernel
theorem dX5_isWrong_88 : decode cX5_isWrong 88 = .ok (.bipush 42, 2) := by decide +kernel
theorem dX5_isWrong_90 : decode cX5_isWrong 90 = .ok (.if_icmp .ne 7, 3) := by decide +kernel
theorem dX5_isWrong_93 : decode cX5_isWrong 93 = .ok (.iconst 1, 1) := by decide +kernel
theorem dX5_isWrong_94 : decode cX5_isWrong 94 = .ok (.goto 4, 3) := by decide +kernel
theorem dX5_isWrong_97 : decode cX5_isWrong 97 = .ok (.iconst 0, 1) := by decide +kernel
theorem dX5_isWrong_98 : decode cX5_isWrong 98 = .ok (.istore 4, 2) := by decide +kernel
theorem dX5_isWrong_100 : decode cX5_isWrong 100 = .ok (.iload 5, 2) := by decide +kernel
theorem dX5_isWrong_102 : decode cX5_isWrong 102 = .ok (.ifCond .ne 15, 3) := by decide +kernel
theorem dX5_isWrong_105 : decode cX5_isWrong 105 = .ok (.aload_n 0, 1) := by decide +kernel
theorem dX5_isWrong_106 : decode cX5_isWrong 106 = .ok (.getfield 17, 3) := by decide +kernel
theorem dX5_isWrong_109 : decode cX5_isWrong 109 = .ok (.iload 7, 2) := by decide +kernel
theorem dX5_isWrong_111 : decode cX5_isWrong 111 = .ok (.iaload, 1) := by decide +kernel
theorem dX5_isWrong_112 : decode cX5_isWrong 112 = .ok (.bipush 43, 2) := by decide +kernel
theorem dX5_isWrong_114 : decode cX5_isWrong 114 = .ok (.if_icmp .ne 7, 3) := by decide +kernel
theorem dX5_isWrong_117 : decode cX5_isWrong 117 = .ok (.iconst 1, 1) := by decide +kernel
theorem dX5_isWrong_118 : decode cX5_isWrong 118 = .ok (.goto 4, 3) := by decide +kernel
theorem dX5_isWrong_121 : decode cX5_isWrong 121 = .ok (.iconst 0, 1) := by decide +kernel
theorem dX5_isWrong_122 : decode cX5_isWrong 122 = .ok (.istore 5, 2) := by decide +kernel
theorem dX5_isWrong_124 : decode cX5_isWrong 124 = .ok (.iload 6, 2) := by decide +kernel
theorem dX5_isWrong_126 : decode cX5_isWrong 126 = .ok (.ifCond .ne 15, 3) := by decide +kernel
theorem dX5_isWrong_129 : decode cX5_isWrong 129 = .ok (.aload_n 0, 1) := by decide +kernel
theorem dX5_isWrong_130 : decode cX5_isWrong 130 = .ok (.getfield 17, 3) := by decide +kernel
theorem dX5_isWrong_133 : decode cX5_isWrong 133 = .ok (.iload 7, 2) := by decide +kernel
theorem dX5_isWrong_135 : decode cX5_isWrong 135 = .ok (.iaload, 1) := by decide +kernel
theorem dX5_isWrong_136 : decode cX5_isWrong 136 = .ok (.bipush 45, 2) := by decide +kernel
theorem dX5_isWrong_138 : decode cX5_isWrong 138 = .ok (.if_icmp .ne 7, 3) := by decide +kernel
theorem dX5_isWrong_141 : decode cX5_isWrong 141 = .ok (.iconst 1, 1) := by decide +kernel
theorem dX5_isWrong_142 : decode cX5_isWrong 142 = .ok (.goto 4, 3) := by decide +kernel
theorem dX5_isWrong_145 : decode cX5_isWrong 145 = .ok (.iconst 0, 1) := by decide +kernel
theorem dX5_isWrong_146 : decode cX5_isWrong 146 = .ok (.istore 6, 2) := by decide +kernel
theorem dX5_isWrong_148 : decode cX5_isWrong 148 = .ok (.iinc 7 1, 3) := by decide +kernel
theorem dX5_isWrong_151 : decode cX5_isWrong 151 = .ok (.goto (-135), 3) := by decide +kernel
theorem dX5_isWrong_154 : decode cX5_isWrong 154 = .ok (.aload_n 0, 1) := by decide +kernel
theorem dX5_isWrong_155 : decode cX5_isWrong 155 = .ok (.getfield 23, 3) := by decide +kernel
theorem dX5_isWrong_158 : decode cX5_isWrong 158 = .ok (.iload_n 1, 1) := by decide +kernel
theorem dX5_isWrong_159 : decode cX5_isWrong 159 = .ok (.iaload, 1) := by decide +kernel
theorem dX5_isWrong_160 : decode cX5_isWrong 160 = .ok (.bipush 8, 2) := by decide +kernel
theorem dX5_isWrong_162 : decode cX5_isWrong 162 = .ok (.if_icmp .eq 14, 3) := by decide +kernel
theorem dX5_isWrong_165 : decode cX5_isWrong 165 = .ok (.aload_n 0, 1) := by decide +kernel
theorem dX5_isWrong_166 : decode cX5_isWrong 166 = .ok (.getfield 23, 3) := by decide +kernel
theorem dX5_isWrong_169 : decode cX5_isWrong 169 = .ok (.iload_n 1, 1) := by decide +kernel
theorem dX5_isWrong_170 : decode cX5_isWrong 170 = .ok (.iaload, 1) := by decide +kernel
theorem dX5_isWrong_171 : decode cX5_isWrong 171 = .ok (.bipush 9, 2) := by decide +kernel
theorem dX5_isWrong_173 : decode cX5_isWrong 173 = .ok (.if_icmp .ne 7, 3) := by decide +kernel
theorem dX5_isWrong_176 : decode cX5_isWrong 176 = .ok (.iconst 1, 1) := by decide +kernel
theorem dX5_isWrong_177 : decode cX5_isWrong 177 = .ok (.goto 4, 3) := by decide +kernel
theorem dX5_isWrong_180 : decode cX5_isWrong 180 = .ok (.iconst 0, 1) := by decide +kernel
theorem dX5_isWrong_181 : decode cX5_isWrong 181 = .ok (.istore 7, 2) := by decide +kernel
theorem dX5_isWrong_183 : decode cX5_isWrong 183 = .ok (.iload_n 2, 1) := by decide +kernel
theorem dX5_isWrong_184 : decode cX5_isWrong 184 = .ok (.ifCond .gt 63, 3) := by decide +kernel
theorem dX5_isWrong_187 : decode cX5_isWrong 187 = .ok (.aload_n 0, 1) := by decide +kernel
theorem dX5_isWrong_188 : decode cX5_isWrong 188 = .ok (.getfield 17, 3) := by decide +kernel
theorem dX5_isWrong_191 : decode cX5_isWrong 191 = .ok (.iload_n 1, 1) := by decide +kernel
theorem dX5_isWrong_192 : decode cX5_isWrong 192 = .ok (.iaload, 1) := by decide +kernel
theorem dX5_isWrong_193 : decode cX5_isWrong 193 = .ok (.bipush 90, 2) := by decide +kernel
theorem dX5_isWrong_195 : decode cX5_isWrong 195 = .ok (.if_icmp .ne 8, 3) := by decide +kernel
theorem dX5_isWrong_198 : decode cX5_isWrong 198 = .ok (.iload 4, 2) := by decide +kernel
theorem dX5_isWrong_200 : decode cX5_isWrong 200 = .ok (.ifCond .ne 47, 3) := by decide +kernel
theorem dX5_isWrong_203 : decode cX5_isWrong 203 = .ok (.aload_n 0, 1) := by decide +kernel
theorem dX5_isWrong_204 : decode cX5_isWrong 204 = .ok (.getfield 17, 3) := by decide +kernel
theorem dX5_isWrong_207 : decode cX5_isWrong 207 = .ok (.iload_n 1, 1) := by decide +kernel
theorem dX5_isWrong_208 : decode cX5_isWrong 208 = .ok (.iaload, 1) := by decide +kernel
theorem dX5_isWrong_209 : decode cX5_isWrong 209 = .ok (.bipush 42, 2) := by decide +kernel
theorem dX5_isWrong_211 : decode cX5_isWrong 211 = .ok (.if_icmp .ne 7, 3) := by decide +kernel
theorem dX5_isWrong_214 : decode cX5_isWrong 214 = .ok (.iload_n 3, 1) := by decide +kernel
theorem dX5_isWrong_215 : decode cX5_isWrong 215 = .ok (.ifCond .ne 32, 3) := by decide +kernel
theorem dX5_isWrong_218 : decode cX5_isWrong 218 = .ok (.iload 7, 2) := by decide +kernel
theorem dX5_isWrong_220 : decode cX5_isWrong 220 = .ok (.ifCond .eq 31, 3) := by decide +kernel
theorem dX5_isWrong_223 : decode cX5_isWrong 223 = .ok (.aload_n 0, 1) := by decide +kernel
theorem dX5_isWrong_224 : decode cX5_isWrong 224 = .ok (.getfield 17, 3) := by decide +kernel
theorem dX5_isWrong_227 : decode cX5_isWrong 227 = .ok (.iload_n 1, 1) := by decide +kernel
theorem dX5_isWrong_228 : decode cX5_isWrong 228 = .ok (.iaload, 1) := by decide +kernel
theorem dX5_isWrong_229 : decode cX5_isWrong 229 = .ok (.bipush 43, 2) := by decide +kernel
theorem dX5_isWrong_231 : decode cX5_isWrong 231 = .ok (.if_icmp .ne 11, 3) := by decide +kernel
theorem dX5_isWrong_234 : decode cX5_isWrong 234 = .ok (.iload 6, 2) := by decide +kernel
theorem dX5_isWrong_236 : decode cX5_isWrong 236 = .ok (.ifCond .eq 15, 3) := by decide +kernel
theorem dX5_isWrong_239 : decode cX5_isWrong 239 = .ok (.goto 8, 3) := by decide +kernel
theorem dX5_isWrong_242 : decode cX5_isWrong 242 = .ok (.iload 5, 2) := by decide +kernel
theorem dX5_isWrong_244 : decode cX5_isWrong 244 = .ok (.ifCond .eq 7, 3) := by decide +kernel
theorem dX5_isWrong_247 : decode cX5_isWrong 247 = .ok (.iconst 1, 1) := by decide +kernel
theorem dX5_isWrong_248 : decode cX5_isWrong 248 = .ok (.goto 4, 3) := by decide +kernel
theorem dX5_isWrong_251 : decode cX5_isWrong 251 = .ok (.iconst 0, 1) := by decide +kernel
theorem dX5_isWrong_252 : decode cX5_isWrong 252 = .ok (.ireturn, 1) := by decide +kernel
set_option maxRecDepth 20000 in
theorem ggX5_wrong_X5_isWrong : GoodIn wsX5_wrong wsX5_isWrong := goodIn_r _ [9, 10, 11, 3, 27, 28, 29, 30, 31, 32, 33, 34, 35, 36, 37, 38, 39, 40, 41, 42, 43, 44, 45, 46, 47, 48, 49, 50] (by decide +kernel) (by decide +kernel)
set_option maxRecDepth 20000 in
theorem gX5_wrong_X5_isWrong : GoodIn wsX5_wrong (wsV RX5 103 RX5 yX5_isWrong wsX5_isWrong) := goodIn_app (goodIn_of _ (by decide +kernel)) ggX5_wrong_X5_isWrong
set_option maxRecDepth 20000 in
theorem ggX5_wrong_X5_isDigitFast : GoodIn wsX5_wrong wsX5_isDigitFast := goodIn_r _ [15, 3, 11, 16, 17, 18, 8, 19, 27, 28, 29, 30, 31, 32, 33, 34, 35, 36, 37, 38, 39, 40, 41, 42, 43, 44, 45, 46, 47, 48, 49, 50] (by decide +kernel) (by decide +kernel)
set_option maxRecDepth 20000 in
theorem gX5_wrong_X5_isDigitFast : GoodIn wsX5_wrong (wsV RX5 107 RX5 yX5_isDigitFast wsX5_isDigitFast) := goodIn_app (goodIn_of _ (by decide +kernel)) ggX5_wrong_X5_isDigitFast
set_option maxRecDepth 20000 in
theorem ggX5_wrong_X5_width : GoodIn wsX5_wrong wsX5_width := goodIn_r _ [22] (by decide +kernel) (by decide +kernel)
set_option maxRecDepth 20000 in
theorem gX5_wrong_X5_width : GoodIn wsX5_wrong (va_wsS RX5 110 yX5_width wsX5_width) := goodIn_app (goodIn_of _ (by decide +kernel)) ggX5_wrong_X5_width
set_option maxRecDepth 20000 in
theorem ggX5_wrong_X5_hasMain : GoodIn wsX5_wrong wsX5_hasMain := goodIn_r _ [26, 1, 11, 27, 28, 29, 30, 31, 32, 33, 34, 35, 36, 37, 38, 39, 40, 41, 42, 43, 44, 45, 46, 47, 48, 49, 50] (by decide +kernel) (by decide +kernel)
set_option maxRecDepth 20000 in
theorem gX5_wrong_X5_hasMain : GoodIn wsX5_wrong (wsV RX5 113 RX5 yX5_hasMain wsX5_hasMain) := goodIn_app (goodIn_of _ (by decide +kernel)) ggX5_wrong_X5_hasMain
theorem dX5_wrong_0 : decode cX5_wrong 0 = .ok (.iconst 0, 1) := by decide +kernel
theorem dX5_wrong_1 : decode cX5_wrong 1 = .ok (.istore_n 1, 1) := by decide +kernel
theorem dX5_wrong_2 : decode cX5_wrong 2 = .ok (.iconst 0, 1) := by decide +kernel
theorem dX5_wrong_3 : decode cX5_wrong 3 = .ok (.istore_n 2, 1) := by decide +kernel
theorem dX5_wrong_4 : decode cX5_wrong 4 = .ok (.iconst (-1), 1) := by decide +kernel
theorem dX5_wrong_5 : decode cX5_wrong 5 = .ok (.istore_n 3, 1) := by decide +kernel
theorem dX5_wrong_6 : decode cX5_wrong 6 = .ok (.iconst 0, 1) := by decide +kernel
theorem dX5_wrong_7 : decode cX5_wrong 7 = .ok (.istore 4, 2) := by decide +kernel
theorem dX5_wrong_9 : decode cX5_wrong 9 = .ok (.iload 4, 2) := by decide +kernel
theorem dX5_wrong_11 : decode cX5_wrong 11 = .ok (.aload_n 0, 1) := by decide +kernel
theorem dX5_wrong_12 : decode cX5_wrong 12 = .ok (.getfield 85, 3) := by decide +kernel
theorem dX5_wrong_15 : decode cX5_wrong 15 = .ok (.if_icmp .ge 136, 3) := by decide +kernel
theorem dX5_wrong_18 : decode cX5_wrong 18 = .ok (.iload 4, 2) := by decide +kernel
theorem dX5_wrong_20 : decode cX5_wrong 20 = .ok (.iconst 1, 1) := by decide +kernel
theorem dX5_wrong_21 : decode cX5_wrong 21 = .ok (.if_icmp .le 45, 3) := by decide +kernel
theorem dX5_wrong_24 : decode cX5_wrong 24 = .ok (.aload_n 0, 1) := by decide +kernel
theorem dX5_wrong_25 : decode cX5_wrong 25 = .ok (.getfield 20, 3) := by decide +kernel
theorem dX5_wrong_28 : decode cX5_wrong 28 = .ok (.iload 4, 2) := by decide +kernel
theorem dX5_wrong_30 : decode cX5_wrong 30 = .ok (.iaload, 1) := by decide +kernel
theorem dX5_wrong_31 : decode cX5_wrong 31 = .ok (.aload_n 0, 1) := by decide +kernel
theorem dX5_wrong_32 : decode cX5_wrong 32 = .ok (.getfield 20, 3) := by decide +kernel
theorem dX5_wrong_35 : decode cX5_wrong 35 = .ok (.iload 4, 2) := by decide +kernel
theorem dX5_wrong_37 : decode cX5_wrong 37 = .ok (.iconst 1, 1) := by decide +kernel
theorem dX5_wrong_38 : decode cX5_wrong 38 = .ok (.isub, 1) := by decide +kernel
theorem dX5_wrong_39 : decode cX5_wrong 39 = .ok (.iaload, 1) := by decide +kernel
theorem dX5_wrong_40 : decode cX5_wrong 40 = .ok (.if_icmp .ne 26, 3) := by decide +kernel
theorem dX5_wrong_43 : decode cX5_wrong 43 = .ok (.aload_n 0, 1) := by decide +kernel
theorem dX5_wrong_44 : decode cX5_wrong 44 = .ok (.getfield 20, 3) := by decide +kernel
theorem dX5_wrong_47 : decode cX5_wrong 47 = .ok (.iload 4, 2) := by decide +kernel
theorem dX5_wrong_49 : decode cX5_wrong 49 = .ok (.iaload, 1) := by decide +kernel
theorem dX5_wrong_50 : decode cX5_wrong 50 = .ok (.aload_n 0, 1) := by decide +kernel
theorem dX5_wrong_51 : decode cX5_wrong 51 = .ok (.getfield 20, 3) := by decide +kernel
theorem dX5_wrong_54 : decode cX5_wrong 54 = .ok (.iload 4, 2) := by decide +kernel
theorem dX5_wrong_56 : decode cX5_wrong 56 = .ok (.iconst 2, 1) := by decide +kernel
theorem dX5_wrong_57 : decode cX5_wrong 57 = .ok (.isub, 1) := by decide +kernel
theorem dX5_wrong_58 : decode cX5_wrong 58 = .ok (.iaload, 1) := by decide +kernel
theorem dX5_wrong_59 : decode cX5_wrong 59 = .ok (.if_icmp .ne 7, 3) := by decide +kernel
theorem dX5_wrong_62 : decode cX5_wrong 62 = .ok (.iconst 1, 1) := by decide +kernel
theorem dX5_wrong_63 : decode cX5_wrong 63 = .ok (.goto 4, 3) := by decide +kernel
theorem dX5_wrong_66 : decode cX5_wrong 66 = .ok (.iconst 0, 1) := by decide +kernel
theorem dX5_wrong_67 : decode cX5_wrong 67 = .ok (.istore 5, 2) := by decide +kernel
theorem dX5_wrong_69 : decode cX5_wrong 69 = .ok (.iload 5, 2) := by decide +kernel
theorem dX5_wrong_71 : decode cX5_wrong 71 = .ok (.ifCond .ne 20, 3) := by decide +kernel
theorem dX5_wrong_74 : decode cX5_wrong 74 = .ok (.aload_n 0, 1) := by decide +kernel
theorem dX5_wrong_75 : decode cX5_wrong 75 = .ok (.iload 4, 2) := by decide +kernel
theorem dX5_wrong_77 : decode cX5_wrong 77 = .ok (.invokevirtual 103, 3) := by decide +kernel
theorem dX5_wrong_80 : decode cX5_wrong 80 = .ok (.ifCond .eq 11, 3) := by decide +kernel
theorem dX5_wrong_83 : decode cX5_wrong 83 = .ok (.aload_n 0, 1) := by decide +kernel
theorem dX5_wrong_84 : decode cX5_wrong 84 = .ok (.getfield 20, 3) := by decide +kernel
theorem dX5_wrong_87 : decode cX5_wrong 87 = .ok (.iload 4, 2) := by decide +kernel
theorem dX5_wrong_89 : decode cX5_wrong 89 = .ok (.iaload, 1) := by decide +kernel
theorem dX5_wrong_90 : decode cX5_wrong 90 = .ok (.ireturn, 1) := by decide +kernel
theorem dX5_wrong_91 : decode cX5_wrong 91 = .ok (.iload_n 1, 1) := by decide +kernel
theorem dX5_wrong_92 : decode cX5_wrong 92 = .ok (.aload_n 0, 1) := by decide +kernel
theorem dX5_wrong_93 : decode cX5_wrong 93 = .ok (.iload 4, 2) := by decide +kernel
theorem dX5_wrong_95 : decode cX5_wrong 95 = .ok (.invokevirtual 107, 3) := by decide +kernel
theorem dX5_wrong_98 : decode cX5_wrong 98 = .ok (.ifCond .eq 7, 3) := by decide +kernel
theorem dX5_wrong_101 : decode cX5_wrong 101 = .ok (.iconst 1, 1) := by decide +kernel
theorem dX5_wrong_102 : decode cX5_wrong 102 = .ok (.goto 4, 3) := by decide +kernel
theorem dX5_wrong_105 : decode cX5_wrong 105 = .ok (.iconst 0, 1) := by decide +kernel
theorem dX5_wrong_106 : decode cX5_wrong 106 = .ok (.iadd, 1) := by decide +kernel
theorem dX5_wrong_107 : decode cX5_wrong 107 = .ok (.istore_n 1, 1) := by decide +kernel
theorem dX5_wrong_108 : decode cX5_wrong 108 = .ok (.iload_n 2, 1) := by decide +kernel
theorem dX5_wrong_109 : decode cX5_wrong 109 = .ok (.aload_n 0, 1) := by decide +kernel
theorem dX5_wrong_110 : decode cX5_wrong 110 = .ok (.getfield 17, 3) := by decide +kernel
theorem dX5_wrong_113 : decode cX5_wrong 113 = .ok (.iload 4, 2) := by decide +kernel
theorem dX5_wrong_115 : decode cX5_wrong 115 = .ok (.iaload, 1) := by decide +kernel
theorem dX5_wrong_116 : decode cX5_wrong 116 = .ok (.invokestatic 110, 3) := by decide +kernel
theorem dX5_wrong_119 : decode cX5_wrong 119 = .ok (.iadd, 1) := by decide +kernel
theorem dX5_wrong_120 : decode cX5_wrong 120 = .ok (.istore_n 2, 1) := by decide +kernel
theorem dX5_wrong_121 : decode cX5_wrong 121 = .ok (.iload_n 1, 1) := by decide +kernel
theorem dX5_wrong_122 : decode cX5_wrong 122 = .ok (.bipush 31, 2) := by decide +kernel
theorem dX5_wrong_124 : decode cX5_wrong 124 = .ok (.if_icmp .gt 10, 3) := by decide +kernel
theorem dX5_wrong_127 : decode cX5_wrong 127 = .ok (.iload_n 2, 1) := by decide +kernel
theorem dX5_wrong_128 : decode cX5_wrong 128 = .ok (.sipush 9999, 3) := by decide +kernel
theorem dX5_wrong_131 : decode cX5_wrong 131 = .ok (.if_icmp .le 11, 3) := by decide +kernel
theorem dX5_wrong_134 : decode cX5_wrong 134 = .ok (.aload_n 0, 1) := by decide +kernel
theorem dX5_wrong_135 : decode cX5_wrong 135 = .ok (.getfield 20, 3) := by decide +kernel
theorem dX5_wrong_138 : decode cX5_wrong 138 = .ok (.iload 4, 2) := by decide +kernel
theorem dX5_wrong_140 : decode cX5_wrong 140 = .ok (.iaload, 1) := by decide +kernel
theorem dX5_wrong_141 : decode cX5_wrong 141 = .ok (.ireturn, 1) := by decide +kernel
theorem dX5_wrong_142 : decode cX5_wrong 142 = .ok (.iload 4, 2) := by decide +kernel
theorem dX5_wrong_144 : decode cX5_wrong 144 = .ok (.istore_n 3, 1) := by decide +kernel
theorem dX5_wrong_145 : decode cX5_wrong 145 = .ok (.iinc 4 1, 3) := by decide +kernel
theorem dX5_wrong_148 : decode cX5_wrong 148 = .ok (.goto (-139), 3) := by decide +kernel
theorem dX5_wrong_151 : decode cX5_wrong 151 = .ok (.iload_n 3, 1) := by decide +kernel
theorem dX5_wrong_152 : decode cX5_wrong 152 = .ok (.iconst (-1), 1) := by decide +kernel
theorem dX5_wrong_153 : decode cX5_wrong 153 = .ok (.if_icmp .eq 10, 3) := by decide +kernel
theorem dX5_wrong_156 : decode cX5_wrong 156 = .ok (.aload_n 0, 1) := by decide +kernel
theorem dX5_wrong_157 : decode cX5_wrong 157 = .ok (.invokevirtual 113, 3) := by decide +kernel
theorem dX5_wrong_160 : decode cX5_wrong 160 = .ok (.ifCond .ne 10, 3) := by decide +kernel
theorem dX5_wrong_163 : decode cX5_wrong 163 = .ok (.aload_n 0, 1) := by decide +kernel
theorem dX5_wrong_164 : decode cX5_wrong 164 = .ok (.getfield 72, 3) := by decide +kernel
theorem dX5_wrong_167 : decode cX5_wrong 167 = .ok (.goto 4, 3) := by decide +kernel
theorem dX5_wrong_170 : decode cX5_wrong 170 = .ok (.iconst (-1), 1) := by decide +kernel
theorem dX5_wrong_171 : decode cX5_wrong 171 = .ok (.ireturn, 1) := by decide +kernel
set_option maxRecDepth 20000 in
theorem ggX5_isDigitFast_X5_isDigit : GoodIn wsX5_isDigitFast wsX5_isDigit := goodIn_r _ [7, 2, 1, 8, 9, 10, 11, 12, 13, 14, 15, 16, 17, 18, 19, 20, 21, 22, 23, 24, 25, 26, 27, 28, 29, 30, 31] (by decide +kernel) (by decide +kernel)
set_option maxRecDepth 20000 in
theorem gX5_isDigitFast_X5_isDigit : GoodIn wsX5_isDigitFast (wsV RX5 117 RX5 yX5_isDigit wsX5_isDigit) := goodIn_app (goodIn_of _ (by decide +kernel)) ggX5_isDigitFast_X5_isDigit
theorem dX5_isDigitFast_0 : decode cX5_isDigitFast 0 = .ok (.iload_n 1, 1) := by decide +kernel
theorem dX5_isDigitFast_1 : decode cX5_isDigitFast 1 = .ok (.ifCond .le 24, 3) := by decide +kernel
theorem dX5_isDigitFast_4 : decode cX5_isDigitFast 4 = .ok (.aload_n 0, 1) := by decide +kernel
theorem dX5_isDigitFast_5 : decode cX5_isDigitFast 5 = .ok (.getfield 17, 3) := by decide +kernel
theorem dX5_isDigitFast_8 : decode cX5_isDigitFast 8 = .ok (.iload_n 1, 1) := by decide +kernel
theorem dX5_isDigitFast_9 : decode cX5_isDigitFast 9 = .ok (.iaload, 1) := by decide +kernel
theorem dX5_isDigitFast_10 : decode cX5_isDigitFast 10 = .ok (.aload_n 0, 1) := by decide +kernel
theorem dX5_isDigitFast_11 : decode cX5_isDigitFast 11 = .ok (.getfield 17, 3) := by decide +kernel
theorem dX5_isDigitFast_14 : decode cX5_isDigitFast 14 = .ok (.iload_n 1, 1) := by decide +kernel
theorem dX5_isDigitFast_15 : decode cX5_isDigitFast 15 = .ok (.iconst 1, 1) := by decide +kernel
theorem dX5_isDigitFast_16 : decode cX5_isDigitFast 16 = .ok (.isub, 1) := by decide +kernel
theorem dX5_isDigitFast_17 : decode cX5_isDigitFast 17 = .ok (.iaload, 1) := by decide +kernel
theorem dX5_isDigitFast_18 : decode cX5_isDigitFast 18 = .ok (.if_icmp .ne 7, 3) := by decide +kernel
theorem dX5_isDigitFast_21 : decode cX5_isDigitFast 21 = .ok (.iconst 1, 1) := by decide +kernel
theorem dX5_isDigitFast_22 : decode cX5_isDigitFast 22 = .ok (.goto 4, 3) := by decide +kernel
theorem dX5_isDigitFast_25 : decode cX5_isDigitFast 25 = .ok (.iconst 0, 1) := by decide +kernel
theorem dX5_isDigitFast_26 : decode cX5_isDigitFast 26 = .ok (.istore_n 2, 1) := by decide +kernel
theorem dX5_isDigitFast_27 : decode cX5_isDigitFast 27 = .ok (.aload_n 0, 1) := by decide +kernel
theorem dX5_isDigitFast_28 : decode cX5_isDigitFast 28 = .ok (.getfield 23, 3) := by decide +kernel
theorem dX5_isDigitFast_31 : decode cX5_isDigitFast 31 = .ok (.iload_n 1, 1) := by decide +kernel
theorem dX5_isDigitFast_32 : decode cX5_isDigitFast 32 = .ok (.iaload, 1) := by decide +kernel
theorem dX5_isDigitFast_33 : decode cX5_isDigitFast 33 = .ok (.istore_n 3, 1) := by decide +kernel
theorem dX5_isDigitFast_34 : decode cX5_isDigitFast 34 = .ok (.iload_n 2, 1) := by decide +kernel
theorem dX5_isDigitFast_35 : decode cX5_isDigitFast 35 = .ok (.ifCond .eq 40, 3) := by decide +kernel
theorem dX5_isDigitFast_38 : decode cX5_isDigitFast 38 = .ok (.iload_n 3, 1) := by decide +kernel
theorem dX5_isDigitFast_39 : decode cX5_isDigitFast 39 = .ok (.bipush 12, 2) := by decide +kernel
theorem dX5_isDigitFast_41 : decode cX5_isDigitFast 41 = .ok (.if_icmp .eq 26, 3) := by decide +kernel
theorem dX5_isDigitFast_44 : decode cX5_isDigitFast 44 = .ok (.iload_n 3, 1) := by decide +kernel
theorem dX5_isDigitFast_45 : decode cX5_isDigitFast 45 = .ok (.iconst 5, 1) := by decide +kernel
theorem dX5_isDigitFast_46 : decode cX5_isDigitFast 46 = .ok (.if_icmp .le 9, 3) := by decide +kernel
end
section
theorem dX5_isDigitFast_49 : decode cX5_isDigitFast 49 = .ok (.iload_n 3, 1) := by decide +kernel
theorem dX5_isDigitFast_50 : decode cX5_isDigitFast 50 = .ok (.bipush 12, 2) := by decide +kernel
theorem dX5_isDigitFast_52 : decode cX5_isDigitFast 52 = .ok (.if_icmp .lt 15, 3) := by decide +kernel
theorem dX5_isDigitFast_55 : decode cX5_isDigitFast 55 = .ok (.iload_n 3, 1) := by decide +kernel
theorem dX5_isDigitFast_56 : decode cX5_isDigitFast 56 = .ok (.bipush 16, 2) := by decide +kernel
theorem dX5_isDigitFast_58 : decode cX5_isDigitFast 58 = .ok (.if_icmp .eq 9, 3) := by decide +kernel
theorem dX5_isDigitFast_61 : decode cX5_isDigitFast 61 = .ok (.iload_n 3, 1) := by decide +kernel
theorem dX5_isDigitFast_62 : decode cX5_isDigitFast 62 = .ok (.bipush 17, 2) := by decide +kernel
theorem dX5_isDigitFast_64 : decode cX5_isDigitFast 64 = .ok (.if_icmp .ne 7, 3) := by decide +kernel
theorem dX5_isDigitFast_67 : decode cX5_isDigitFast 67 = .ok (.iconst 1, 1) := by decide +kernel
theorem dX5_isDigitFast_68 : decode cX5_isDigitFast 68 = .ok (.goto 12, 3) := by decide +kernel
theorem dX5_isDigitFast_71 : decode cX5_isDigitFast 71 = .ok (.iconst 0, 1) := by decide +kernel
theorem dX5_isDigitFast_72 : decode cX5_isDigitFast 72 = .ok (.goto 8, 3) := by decide +kernel
theorem dX5_isDigitFast_75 : decode cX5_isDigitFast 75 = .ok (.aload_n 0, 1) := by decide +kernel
theorem dX5_isDigitFast_76 : decode cX5_isDigitFast 76 = .ok (.iload_n 1, 1) := by decide +kernel
theorem dX5_isDigitFast_77 : decode cX5_isDigitFast 77 = .ok (.invokevirtual 117, 3) := by decide +kernel
theorem dX5_isDigitFast_80 : decode cX5_isDigitFast 80 = .ok (.ireturn, 1) := by decide +kernel
theorem dX5_hasMain_0 : decode cX5_hasMain 0 = .ok (.iconst 0, 1) := by decide +kernel
theorem dX5_hasMain_1 : decode cX5_hasMain 1 = .ok (.istore_n 1, 1) := by decide +kernel
theorem dX5_hasMain_2 : decode cX5_hasMain 2 = .ok (.iconst 0, 1) := by decide +kernel
theorem dX5_hasMain_3 : decode cX5_hasMain 3 = .ok (.istore_n 2, 1) := by decide +kernel
theorem dX5_hasMain_4 : decode cX5_hasMain 4 = .ok (.iload_n 2, 1) := by decide +kernel
theorem dX5_hasMain_5 : decode cX5_hasMain 5 = .ok (.aload_n 0, 1) := by decide +kernel
theorem dX5_hasMain_6 : decode cX5_hasMain 6 = .ok (.getfield 85, 3) := by decide +kernel
theorem dX5_hasMain_9 : decode cX5_hasMain 9 = .ok (.if_icmp .ge 51, 3) := by decide +kernel
theorem dX5_hasMain_12 : decode cX5_hasMain 12 = .ok (.iload_n 1, 1) := by decide +kernel
theorem dX5_hasMain_13 : decode cX5_hasMain 13 = .ok (.ifCond .ne 35, 3) := by decide +kernel
theorem dX5_hasMain_16 : decode cX5_hasMain 16 = .ok (.aload_n 0, 1) := by decide +kernel
theorem dX5_hasMain_17 : decode cX5_hasMain 17 = .ok (.getfield 23, 3) := by decide +kernel
theorem dX5_hasMain_20 : decode cX5_hasMain 20 = .ok (.iload_n 2, 1) := by decide +kernel
theorem dX5_hasMain_21 : decode cX5_hasMain 21 = .ok (.iaload, 1) := by decide +kernel
theorem dX5_hasMain_22 : decode cX5_hasMain 22 = .ok (.iconst 5, 1) := by decide +kernel
theorem dX5_hasMain_23 : decode cX5_hasMain 23 = .ok (.if_icmp .le 14, 3) := by decide +kernel
theorem dX5_hasMain_26 : decode cX5_hasMain 26 = .ok (.aload_n 0, 1) := by decide +kernel
theorem dX5_hasMain_27 : decode cX5_hasMain 27 = .ok (.getfield 23, 3) := by decide +kernel
theorem dX5_hasMain_30 : decode cX5_hasMain 30 = .ok (.iload_n 2, 1) := by decide +kernel
theorem dX5_hasMain_31 : decode cX5_hasMain 31 = .ok (.iaload, 1) := by decide +kernel
theorem dX5_hasMain_32 : decode cX5_hasMain 32 = .ok (.bipush 14, 2) := by decide +kernel
theorem dX5_hasMain_34 : decode cX5_hasMain 34 = .ok (.if_icmp .lt 14, 3) := by decide +kernel
theorem dX5_hasMain_37 : decode cX5_hasMain 37 = .ok (.aload_n 0, 1) := by decide +kernel
theorem dX5_hasMain_38 : decode cX5_hasMain 38 = .ok (.getfield 23, 3) := by decide +kernel
theorem dX5_hasMain_41 : decode cX5_hasMain 41 = .ok (.iload_n 2, 1) := by decide +kernel
theorem dX5_hasMain_42 : decode cX5_hasMain 42 = .ok (.iaload, 1) := by decide +kernel
theorem dX5_hasMain_43 : decode cX5_hasMain 43 = .ok (.bipush 18, 2) := by decide +kernel
theorem dX5_hasMain_45 : decode cX5_hasMain 45 = .ok (.if_icmp .ne 7, 3) := by decide +kernel
theorem dX5_hasMain_48 : decode cX5_hasMain 48 = .ok (.iconst 1, 1) := by decide +kernel
theorem dX5_hasMain_49 : decode cX5_hasMain 49 = .ok (.goto 4, 3) := by decide +kernel
theorem dX5_hasMain_52 : decode cX5_hasMain 52 = .ok (.iconst 0, 1) := by decide +kernel
theorem dX5_hasMain_53 : decode cX5_hasMain 53 = .ok (.istore_n 1, 1) := by decide +kernel
theorem dX5_hasMain_54 : decode cX5_hasMain 54 = .ok (.iinc 2 1, 3) := by decide +kernel
theorem dX5_hasMain_57 : decode cX5_hasMain 57 = .ok (.goto (-53), 3) := by decide +kernel
theorem dX5_hasMain_60 : decode cX5_hasMain 60 = .ok (.iload_n 1, 1) := by decide +kernel
theorem dX5_hasMain_61 : decode cX5_hasMain 61 = .ok (.ireturn, 1) := by decide +kernel
set_option maxRecDepth 20000 in
theorem ggX5_read_X5_scan : GoodIn wsX5_read wsX5_scan := goodIn_r _ [18, 3, 19, 20, 21, 2, 8, 22, 23, 24, 25, 17, 26, 5, 27, 28, 29, 30, 31, 32, 33, 34, 35, 36, 37, 38, 39, 40, 41, 42, 78, 79, 80, 81, 82, 83, 84, 85, 86, 87, 88, 89, 90, 91, 92, 93, 94, 95, 96, 97, 98, 99, 100, 101] (by decide +kernel) (by decide +kernel)
set_option maxRecDepth 20000 in
theorem gX5_read_X5_scan : GoodIn wsX5_read (wsV RX5 120 RX5 yX5_scan wsX5_scan) := goodIn_app (goodIn_of _ (by decide +kernel)) ggX5_read_X5_scan
set_option maxRecDepth 20000 in
theorem ggX5_read_X5_sorts : GoodIn wsX5_read wsX5_sorts := goodIn_r _ [46, 19, 20, 21, 3, 8, 10, 78, 79, 80, 81, 82, 83, 84, 85, 86, 87, 88, 89, 90, 91, 92, 93, 94, 95, 96, 97, 98, 99, 100, 101] (by decide +kernel) (by decide +kernel)
set_option maxRecDepth 20000 in
theorem gX5_read_X5_sorts : GoodIn wsX5_read (wsV RX5 124 RX5 yX5_sorts wsX5_sorts) := goodIn_app (goodIn_of _ (by decide +kernel)) ggX5_read_X5_sorts
set_option maxRecDepth 20000 in
theorem ggX5_read_X5_wrong : GoodIn wsX5_read wsX5_wrong := goodIn_r _ [50, 3, 22, 8, 2, 51, 52, 53, 17, 54, 55, 10, 56, 57, 58, 59, 60, 61, 62, 63, 64, 65, 66, 67, 68, 69, 70, 78, 79, 80, 81, 82, 83, 84, 85, 86, 87, 88, 89, 90, 91, 92, 93, 94, 95, 96, 97, 98, 99, 100, 101] (by decide +kernel) (by decide +kernel)
set_option maxRecDepth 20000 in
theorem gX5_read_X5_wrong : GoodIn wsX5_read (wsV RX5 127 RX5 yX5_wrong wsX5_wrong) := goodIn_app (goodIn_of _ (by decide +kernel)) ggX5_read_X5_wrong
set_option maxRecDepth 20000 in
theorem ggX5_read_X5_width : GoodIn wsX5_read wsX5_width := goodIn_r _ [66] (by decide +kernel) (by decide +kernel)
set_option maxRecDepth 20000 in
theorem gX5_read_X5_width : GoodIn wsX5_read (va_wsS RX5 110 yX5_width wsX5_width) := goodIn_app (goodIn_of _ (by decide +kernel)) ggX5_read_X5_width
set_option maxRecDepth 20000 in
theorem ggX5_read_X5_keep : GoodIn wsX5_read wsX5_keep := goodIn_r _ [74, 75, 13, 3, 76, 8, 77, 10, 78, 79, 80, 81, 82, 83, 84, 85, 86, 87, 88, 89, 90, 91, 92, 93, 94, 95, 96, 97, 98, 99, 100, 101] (by decide +kernel) (by decide +kernel)
set_option maxRecDepth 20000 in
theorem gX5_read_X5_keep : GoodIn wsX5_read (wsV RX5 139 RX5 yX5_keep wsX5_keep) := goodIn_app (goodIn_of _ (by decide +kernel)) ggX5_read_X5_keep
theorem dX5_read_0 : decode cX5_read 0 = .ok (.aload_n 0, 1) := by decide +kernel
theorem dX5_read_1 : decode cX5_read 1 = .ok (.iconst 0, 1) := by decide +kernel
theorem dX5_read_2 : decode cX5_read 2 = .ok (.putfield 69, 3) := by decide +kernel
theorem dX5_read_5 : decode cX5_read 5 = .ok (.aload_n 0, 1) := by decide +kernel
theorem dX5_read_6 : decode cX5_read 6 = .ok (.invokevirtual 120, 3) := by decide +kernel
theorem dX5_read_9 : decode cX5_read 9 = .ok (.istore_n 1, 1) := by decide +kernel
theorem dX5_read_10 : decode cX5_read 10 = .ok (.iload_n 1, 1) := by decide +kernel
theorem dX5_read_11 : decode cX5_read 11 = .ok (.iconst (-1), 1) := by decide +kernel
theorem dX5_read_12 : decode cX5_read 12 = .ok (.if_icmp .ne 7, 3) := by decide +kernel
theorem dX5_read_15 : decode cX5_read 15 = .ok (.aload_n 0, 1) := by decide +kernel
theorem dX5_read_16 : decode cX5_read 16 = .ok (.invokevirtual 124, 3) := by decide +kernel
theorem dX5_read_19 : decode cX5_read 19 = .ok (.iload_n 1, 1) := by decide +kernel
theorem dX5_read_20 : decode cX5_read 20 = .ok (.iconst (-1), 1) := by decide +kernel
theorem dX5_read_21 : decode cX5_read 21 = .ok (.if_icmp .ne 8, 3) := by decide +kernel
theorem dX5_read_24 : decode cX5_read 24 = .ok (.aload_n 0, 1) := by decide +kernel
theorem dX5_read_25 : decode cX5_read 25 = .ok (.invokevirtual 127, 3) := by decide +kernel
theorem dX5_read_28 : decode cX5_read 28 = .ok (.istore_n 1, 1) := by decide +kernel
theorem dX5_read_29 : decode cX5_read 29 = .ok (.aload_n 0, 1) := by decide +kernel
theorem dX5_read_30 : decode cX5_read 30 = .ok (.iconst 0, 1) := by decide +kernel
theorem dX5_read_31 : decode cX5_read 31 = .ok (.putfield 72, 3) := by decide +kernel
theorem dX5_read_34 : decode cX5_read 34 = .ok (.iload_n 1, 1) := by decide +kernel
theorem dX5_read_35 : decode cX5_read 35 = .ok (.iconst (-1), 1) := by decide +kernel
theorem dX5_read_36 : decode cX5_read 36 = .ok (.if_icmp .eq 7, 3) := by decide +kernel
theorem dX5_read_39 : decode cX5_read 39 = .ok (.iconst (-1), 1) := by decide +kernel
theorem dX5_read_40 : decode cX5_read 40 = .ok (.iload_n 1, 1) := by decide +kernel
theorem dX5_read_41 : decode cX5_read 41 = .ok (.isub, 1) := by decide +kernel
theorem dX5_read_42 : decode cX5_read 42 = .ok (.ireturn, 1) := by decide +kernel
theorem dX5_read_43 : decode cX5_read 43 = .ok (.aload_n 0, 1) := by decide +kernel
theorem dX5_read_44 : decode cX5_read 44 = .ok (.aload_n 0, 1) := by decide +kernel
theorem dX5_read_45 : decode cX5_read 45 = .ok (.getfield 85, 3) := by decide +kernel
theorem dX5_read_48 : decode cX5_read 48 = .ok (.putfield 35, 3) := by decide +kernel
theorem dX5_read_51 : decode cX5_read 51 = .ok (.aload_n 0, 1) := by decide +kernel
theorem dX5_read_52 : decode cX5_read 52 = .ok (.aload_n 0, 1) := by decide +kernel
theorem dX5_read_53 : decode cX5_read 53 = .ok (.getfield 13, 3) := by decide +kernel
theorem dX5_read_56 : decode cX5_read 56 = .ok (.putfield 130, 3) := by decide +kernel
theorem dX5_read_59 : decode cX5_read 59 = .ok (.iconst 0, 1) := by decide +kernel
theorem dX5_read_60 : decode cX5_read 60 = .ok (.istore_n 2, 1) := by decide +kernel
theorem dX5_read_61 : decode cX5_read 61 = .ok (.iload_n 2, 1) := by decide +kernel
theorem dX5_read_62 : decode cX5_read 62 = .ok (.aload_n 0, 1) := by decide +kernel
theorem dX5_read_63 : decode cX5_read 63 = .ok (.getfield 85, 3) := by decide +kernel
theorem dX5_read_66 : decode cX5_read 66 = .ok (.if_icmp .ge 33, 3) := by decide +kernel
theorem dX5_read_69 : decode cX5_read 69 = .ok (.aload_n 0, 1) := by decide +kernel
theorem dX5_read_70 : decode cX5_read 70 = .ok (.getfield 26, 3) := by decide +kernel
theorem dX5_read_73 : decode cX5_read 73 = .ok (.iload_n 2, 1) := by decide +kernel
theorem dX5_read_74 : decode cX5_read 74 = .ok (.aload_n 0, 1) := by decide +kernel
theorem dX5_read_75 : decode cX5_read 75 = .ok (.getfield 17, 3) := by decide +kernel
theorem dX5_read_78 : decode cX5_read 78 = .ok (.iload_n 2, 1) := by decide +kernel
theorem dX5_read_79 : decode cX5_read 79 = .ok (.iaload, 1) := by decide +kernel
theorem dX5_read_80 : decode cX5_read 80 = .ok (.iastore, 1) := by decide +kernel
theorem dX5_read_81 : decode cX5_read 81 = .ok (.aload_n 0, 1) := by decide +kernel
theorem dX5_read_82 : decode cX5_read 82 = .ok (.getfield 29, 3) := by decide +kernel
theorem dX5_read_85 : decode cX5_read 85 = .ok (.iload_n 2, 1) := by decide +kernel
theorem dX5_read_86 : decode cX5_read 86 = .ok (.aload_n 0, 1) := by decide +kernel
theorem dX5_read_87 : decode cX5_read 87 = .ok (.getfield 23, 3) := by decide +kernel
theorem dX5_read_90 : decode cX5_read 90 = .ok (.iload_n 2, 1) := by decide +kernel
theorem dX5_read_91 : decode cX5_read 91 = .ok (.iaload, 1) := by decide +kernel
theorem dX5_read_92 : decode cX5_read 92 = .ok (.iastore, 1) := by decide +kernel
theorem dX5_read_93 : decode cX5_read 93 = .ok (.iinc 2 1, 3) := by decide +kernel
theorem dX5_read_96 : decode cX5_read 96 = .ok (.goto (-35), 3) := by decide +kernel
theorem dX5_read_99 : decode cX5_read 99 = .ok (.aload_n 0, 1) := by decide +kernel
theorem dX5_read_100 : decode cX5_read 100 = .ok (.iconst 0, 1) := by decide +kernel
theorem dX5_read_101 : decode cX5_read 101 = .ok (.putfield 133, 3) := by decide +kernel
theorem dX5_read_104 : decode cX5_read 104 = .ok (.iconst 0, 1) := by decide +kernel
theorem dX5_read_105 : decode cX5_read 105 = .ok (.istore_n 2, 1) := by decide +kernel
theorem dX5_read_106 : decode cX5_read 106 = .ok (.iconst 0, 1) := by decide +kernel
theorem dX5_read_107 : decode cX5_read 107 = .ok (.istore_n 3, 1) := by decide +kernel
theorem dX5_read_108 : decode cX5_read 108 = .ok (.iload_n 3, 1) := by decide +kernel
theorem dX5_read_109 : decode cX5_read 109 = .ok (.aload_n 0, 1) := by decide +kernel
theorem dX5_read_110 : decode cX5_read 110 = .ok (.getfield 85, 3) := by decide +kernel
theorem dX5_read_113 : decode cX5_read 113 = .ok (.if_icmp .ge 161, 3) := by decide +kernel
theorem dX5_read_116 : decode cX5_read 116 = .ok (.iload_n 2, 1) := by decide +kernel
theorem dX5_read_117 : decode cX5_read 117 = .ok (.aload_n 0, 1) := by decide +kernel
theorem dX5_read_118 : decode cX5_read 118 = .ok (.getfield 17, 3) := by decide +kernel
theorem dX5_read_121 : decode cX5_read 121 = .ok (.iload_n 3, 1) := by decide +kernel
theorem dX5_read_122 : decode cX5_read 122 = .ok (.iaload, 1) := by decide +kernel
theorem dX5_read_123 : decode cX5_read 123 = .ok (.invokestatic 110, 3) := by decide +kernel
theorem dX5_read_126 : decode cX5_read 126 = .ok (.iadd, 1) := by decide +kernel
theorem dX5_read_127 : decode cX5_read 127 = .ok (.istore_n 2, 1) := by decide +kernel
theorem dX5_read_128 : decode cX5_read 128 = .ok (.aload_n 0, 1) := by decide +kernel
theorem dX5_read_129 : decode cX5_read 129 = .ok (.getfield 32, 3) := by decide +kernel
theorem dX5_read_132 : decode cX5_read 132 = .ok (.aload_n 0, 1) := by decide +kernel
theorem dX5_read_133 : decode cX5_read 133 = .ok (.getfield 133, 3) := by decide +kernel
theorem dX5_read_136 : decode cX5_read 136 = .ok (.aload_n 0, 1) := by decide +kernel
theorem dX5_read_137 : decode cX5_read 137 = .ok (.getfield 17, 3) := by decide +kernel
theorem dX5_read_140 : decode cX5_read 140 = .ok (.iload_n 3, 1) := by decide +kernel
theorem dX5_read_141 : decode cX5_read 141 = .ok (.iaload, 1) := by decide +kernel
theorem dX5_read_142 : decode cX5_read 142 = .ok (.sipush 200, 3) := by decide +kernel
theorem dX5_read_145 : decode cX5_read 145 = .ok (.if_icmp .ne 8, 3) := by decide +kernel
theorem dX5_read_148 : decode cX5_read 148 = .ok (.bipush 67, 2) := by decide +kernel
theorem dX5_read_150 : decode cX5_read 150 = .ok (.goto 45, 3) := by decide +kernel
theorem dX5_read_153 : decode cX5_read 153 = .ok (.aload_n 0, 1) := by decide +kernel
theorem dX5_read_154 : decode cX5_read 154 = .ok (.getfield 17, 3) := by decide +kernel
theorem dX5_read_157 : decode cX5_read 157 = .ok (.iload_n 3, 1) := by decide +kernel
theorem dX5_read_158 : decode cX5_read 158 = .ok (.iaload, 1) := by decide +kernel
theorem dX5_read_159 : decode cX5_read 159 = .ok (.sipush 201, 3) := by decide +kernel
theorem dX5_read_162 : decode cX5_read 162 = .ok (.if_icmp .ne 8, 3) := by decide +kernel
theorem dX5_read_165 : decode cX5_read 165 = .ok (.bipush 68, 2) := by decide +kernel
theorem dX5_read_167 : decode cX5_read 167 = .ok (.goto 28, 3) := by decide +kernel
theorem dX5_read_170 : decode cX5_read 170 = .ok (.aload_n 0, 1) := by decide +kernel
theorem dX5_read_171 : decode cX5_read 171 = .ok (.getfield 17, 3) := by decide +kernel
theorem dX5_read_174 : decode cX5_read 174 = .ok (.iload_n 3, 1) := by decide +kernel
theorem dX5_read_175 : decode cX5_read 175 = .ok (.iaload, 1) := by decide +kernel
theorem dX5_read_176 : decode cX5_read 176 = .ok (.sipush 202, 3) := by decide +kernel
theorem dX5_read_179 : decode cX5_read 179 = .ok (.if_icmp .ne 10, 3) := by decide +kernel
theorem dX5_read_182 : decode cX5_read 182 = .ok (.aload_n 0, 1) := by decide +kernel
theorem dX5_read_183 : decode cX5_read 183 = .ok (.getfield 13, 3) := by decide +kernel
theorem dX5_read_186 : decode cX5_read 186 = .ok (.goto 9, 3) := by decide +kernel
theorem dX5_read_189 : decode cX5_read 189 = .ok (.aload_n 0, 1) := by decide +kernel
theorem dX5_read_190 : decode cX5_read 190 = .ok (.getfield 17, 3) := by decide +kernel
theorem dX5_read_193 : decode cX5_read 193 = .ok (.iload_n 3, 1) := by decide +kernel
theorem dX5_read_194 : decode cX5_read 194 = .ok (.iaload, 1) := by decide +kernel
theorem dX5_read_195 : decode cX5_read 195 = .ok (.iastore, 1) := by decide +kernel
theorem dX5_read_196 : decode cX5_read 196 = .ok (.aload_n 0, 1) := by decide +kernel
theorem dX5_read_197 : decode cX5_read 197 = .ok (.getfield 17, 3) := by decide +kernel
theorem dX5_read_200 : decode cX5_read 200 = .ok (.iload_n 3, 1) := by decide +kernel
theorem dX5_read_201 : decode cX5_read 201 = .ok (.iaload, 1) := by decide +kernel
theorem dX5_read_202 : decode cX5_read 202 = .ok (.sipush 200, 3) := by decide +kernel
theorem dX5_read_205 : decode cX5_read 205 = .ok (.if_icmp .eq 15, 3) := by decide +kernel
theorem dX5_read_208 : decode cX5_read 208 = .ok (.aload_n 0, 1) := by decide +kernel
theorem dX5_read_209 : decode cX5_read 209 = .ok (.getfield 17, 3) := by decide +kernel
theorem dX5_read_212 : decode cX5_read 212 = .ok (.iload_n 3, 1) := by decide +kernel
theorem dX5_read_213 : decode cX5_read 213 = .ok (.iaload, 1) := by decide +kernel
theorem dX5_read_214 : decode cX5_read 214 = .ok (.sipush 201, 3) := by decide +kernel
theorem dX5_read_217 : decode cX5_read 217 = .ok (.if_icmp .ne 41, 3) := by decide +kernel
theorem dX5_read_220 : decode cX5_read 220 = .ok (.aload_n 0, 1) := by decide +kernel
theorem dX5_read_221 : decode cX5_read 221 = .ok (.dup, 1) := by decide +kernel
theorem dX5_read_222 : decode cX5_read 222 = .ok (.getfield 133, 3) := by decide +kernel
theorem dX5_read_225 : decode cX5_read 225 = .ok (.iconst 1, 1) := by decide +kernel
theorem dX5_read_226 : decode cX5_read 226 = .ok (.iadd, 1) := by decide +kernel
theorem dX5_read_227 : decode cX5_read 227 = .ok (.putfield 133, 3) := by decide +kernel
theorem dX5_read_230 : decode cX5_read 230 = .ok (.aload_n 0, 1) := by decide +kernel
theorem dX5_read_231 : decode cX5_read 231 = .ok (.getfield 32, 3) := by decide +kernel
theorem dX5_read_234 : decode cX5_read 234 = .ok (.aload_n 0, 1) := by decide +kernel
theorem dX5_read_235 : decode cX5_read 235 = .ok (.getfield 133, 3) := by decide +kernel
theorem dX5_read_238 : decode cX5_read 238 = .ok (.aload_n 0, 1) := by decide +kernel
theorem dX5_read_239 : decode cX5_read 239 = .ok (.getfield 17, 3) := by decide +kernel
theorem dX5_read_242 : decode cX5_read 242 = .ok (.iload_n 3, 1) := by decide +kernel
theorem dX5_read_243 : decode cX5_read 243 = .ok (.iaload, 1) := by decide +kernel
theorem dX5_read_244 : decode cX5_read 244 = .ok (.sipush 200, 3) := by decide +kernel
theorem dX5_read_247 : decode cX5_read 247 = .ok (.if_icmp .ne 8, 3) := by decide +kernel
theorem dX5_read_250 : decode cX5_read 250 = .ok (.bipush 82, 2) := by decide +kernel
theorem dX5_read_252 : decode cX5_read 252 = .ok (.goto 5, 3) := by decide +kernel
theorem dX5_read_255 : decode cX5_read 255 = .ok (.bipush 66, 2) := by decide +kernel
theorem dX5_read_257 : decode cX5_read 257 = .ok (.iastore, 1) := by decide +kernel
theorem dX5_read_258 : decode cX5_read 258 = .ok (.aload_n 0, 1) := by decide +kernel
theorem dX5_read_259 : decode cX5_read 259 = .ok (.dup, 1) := by decide +kernel
theorem dX5_read_260 : decode cX5_read 260 = .ok (.getfield 133, 3) := by decide +kernel
theorem dX5_read_263 : decode cX5_read 263 = .ok (.iconst 1, 1) := by decide +kernel
theorem dX5_read_264 : decode cX5_read 264 = .ok (.iadd, 1) := by decide +kernel
theorem dX5_read_265 : decode cX5_read 265 = .ok (.putfield 133, 3) := by decide +kernel
theorem dX5_read_268 : decode cX5_read 268 = .ok (.iinc 3 1, 3) := by decide +kernel
theorem dX5_read_271 : decode cX5_read 271 = .ok (.goto (-163), 3) := by decide +kernel
theorem dX5_read_274 : decode cX5_read 274 = .ok (.aload_n 0, 1) := by decide +kernel
theorem dX5_read_275 : decode cX5_read 275 = .ok (.getfield 136, 3) := by decide +kernel
theorem dX5_read_278 : decode cX5_read 278 = .ok (.bipush 40, 2) := by decide +kernel
theorem dX5_read_280 : decode cX5_read 280 = .ok (.if_icmp .ge 7, 3) := by decide +kernel
theorem dX5_read_283 : decode cX5_read 283 = .ok (.aload_n 0, 1) := by decide +kernel
theorem dX5_read_284 : decode cX5_read 284 = .ok (.invokevirtual 139, 3) := by decide +kernel
theorem dX5_read_287 : decode cX5_read 287 = .ok (.iload_n 2, 1) := by decide +kernel
theorem dX5_read_288 : decode cX5_read 288 = .ok (.ireturn, 1) := by decide +kernel
theorem dX5_keep_0 : decode cX5_keep 0 = .ok (.aload_n 0, 1) := by decide +kernel
theorem dX5_keep_1 : decode cX5_keep 1 = .ok (.getfield 45, 3) := by decide +kernel
theorem dX5_keep_4 : decode cX5_keep 4 = .ok (.aload_n 0, 1) := by decide +kernel
theorem dX5_keep_5 : decode cX5_keep 5 = .ok (.getfield 136, 3) := by decide +kernel
theorem dX5_keep_8 : decode cX5_keep 8 = .ok (.aload_n 0, 1) := by decide +kernel
theorem dX5_keep_9 : decode cX5_keep 9 = .ok (.getfield 85, 3) := by decide +kernel
theorem dX5_keep_12 : decode cX5_keep 12 = .ok (.iastore, 1) := by decide +kernel
theorem dX5_keep_13 : decode cX5_keep 13 = .ok (.iconst 0, 1) := by decide +kernel
theorem dX5_keep_14 : decode cX5_keep 14 = .ok (.istore_n 1, 1) := by decide +kernel
theorem dX5_keep_15 : decode cX5_keep 15 = .ok (.iload_n 1, 1) := by decide +kernel
theorem dX5_keep_16 : decode cX5_keep 16 = .ok (.aload_n 0, 1) := by decide +kernel
theorem dX5_keep_17 : decode cX5_keep 17 = .ok (.getfield 85, 3) := by decide +kernel
theorem dX5_keep_20 : decode cX5_keep 20 = .ok (.if_icmp .ge 51, 3) := by decide +kernel
theorem dX5_keep_23 : decode cX5_keep 23 = .ok (.aload_n 0, 1) := by decide +kernel
theorem dX5_keep_24 : decode cX5_keep 24 = .ok (.getfield 39, 3) := by decide +kernel
theorem dX5_keep_27 : decode cX5_keep 27 = .ok (.sipush 10200, 3) := by decide +kernel
theorem dX5_keep_30 : decode cX5_keep 30 = .ok (.aload_n 0, 1) := by decide +kernel
theorem dX5_keep_31 : decode cX5_keep 31 = .ok (.getfield 136, 3) := by decide +kernel
theorem dX5_keep_34 : decode cX5_keep 34 = .ok (.imul, 1) := by decide +kernel
theorem dX5_keep_35 : decode cX5_keep 35 = .ok (.iload_n 1, 1) := by decide +kernel
theorem dX5_keep_36 : decode cX5_keep 36 = .ok (.iadd, 1) := by decide +kernel
theorem dX5_keep_37 : decode cX5_keep 37 = .ok (.aload_n 0, 1) := by decide +kernel
theorem dX5_keep_38 : decode cX5_keep 38 = .ok (.getfield 17, 3) := by decide +kernel
theorem dX5_keep_41 : decode cX5_keep 41 = .ok (.iload_n 1, 1) := by decide +kernel
theorem dX5_keep_42 : decode cX5_keep 42 = .ok (.iaload, 1) := by decide +kernel
theorem dX5_keep_43 : decode cX5_keep 43 = .ok (.iastore, 1) := by decide +kernel
theorem dX5_keep_44 : decode cX5_keep 44 = .ok (.aload_n 0, 1) := by decide +kernel
theorem dX5_keep_45 : decode cX5_keep 45 = .ok (.getfield 42, 3) := by decide +kernel
theorem dX5_keep_48 : decode cX5_keep 48 = .ok (.sipush 10200, 3) := by decide +kernel
theorem dX5_keep_51 : decode cX5_keep 51 = .ok (.aload_n 0, 1) := by decide +kernel
theorem dX5_keep_52 : decode cX5_keep 52 = .ok (.getfield 136, 3) := by decide +kernel
theorem dX5_keep_55 : decode cX5_keep 55 = .ok (.imul, 1) := by decide +kernel
theorem dX5_keep_56 : decode cX5_keep 56 = .ok (.iload_n 1, 1) := by decide +kernel
theorem dX5_keep_57 : decode cX5_keep 57 = .ok (.iadd, 1) := by decide +kernel
theorem dX5_keep_58 : decode cX5_keep 58 = .ok (.aload_n 0, 1) := by decide +kernel
theorem dX5_keep_59 : decode cX5_keep 59 = .ok (.getfield 23, 3) := by decide +kernel
theorem dX5_keep_62 : decode cX5_keep 62 = .ok (.iload_n 1, 1) := by decide +kernel
theorem dX5_keep_63 : decode cX5_keep 63 = .ok (.iaload, 1) := by decide +kernel
theorem dX5_keep_64 : decode cX5_keep 64 = .ok (.iastore, 1) := by decide +kernel
theorem dX5_keep_65 : decode cX5_keep 65 = .ok (.iinc 1 1, 3) := by decide +kernel
theorem dX5_keep_68 : decode cX5_keep 68 = .ok (.goto (-53), 3) := by decide +kernel
theorem dX5_keep_71 : decode cX5_keep 71 = .ok (.aload_n 0, 1) := by decide +kernel
theorem dX5_keep_72 : decode cX5_keep 72 = .ok (.dup, 1) := by decide +kernel
theorem dX5_keep_73 : decode cX5_keep 73 = .ok (.getfield 136, 3) := by decide +kernel
theorem dX5_keep_76 : decode cX5_keep 76 = .ok (.iconst 1, 1) := by decide +kernel
theorem dX5_keep_77 : decode cX5_keep 77 = .ok (.iadd, 1) := by decide +kernel
theorem dX5_keep_78 : decode cX5_keep 78 = .ok (.putfield 136, 3) := by decide +kernel
theorem dX5_keep_81 : decode cX5_keep 81 = .ok (.return_, 1) := by decide +kernel
theorem dX5_ofKind_0 : decode cX5_ofKind 0 = .ok (.iconst 0, 1) := by decide +kernel
theorem dX5_ofKind_1 : decode cX5_ofKind 1 = .ok (.istore_n 2, 1) := by decide +kernel
theorem dX5_ofKind_2 : decode cX5_ofKind 2 = .ok (.iconst 0, 1) := by decide +kernel
theorem dX5_ofKind_3 : decode cX5_ofKind 3 = .ok (.istore_n 3, 1) := by decide +kernel
theorem dX5_ofKind_4 : decode cX5_ofKind 4 = .ok (.iload_n 3, 1) := by decide +kernel
theorem dX5_ofKind_5 : decode cX5_ofKind 5 = .ok (.aload_n 0, 1) := by decide +kernel
theorem dX5_ofKind_6 : decode cX5_ofKind 6 = .ok (.getfield 35, 3) := by decide +kernel
theorem dX5_ofKind_9 : decode cX5_ofKind 9 = .ok (.if_icmp .ge 27, 3) := by decide +kernel
theorem dX5_ofKind_12 : decode cX5_ofKind 12 = .ok (.iload_n 2, 1) := by decide +kernel
theorem dX5_ofKind_13 : decode cX5_ofKind 13 = .ok (.aload_n 0, 1) := by decide +kernel
theorem dX5_ofKind_14 : decode cX5_ofKind 14 = .ok (.getfield 29, 3) := by decide +kernel
theorem dX5_ofKind_17 : decode cX5_ofKind 17 = .ok (.iload_n 3, 1) := by decide +kernel
theorem dX5_ofKind_18 : decode cX5_ofKind 18 = .ok (.iaload, 1) := by decide +kernel
theorem dX5_ofKind_19 : decode cX5_ofKind 19 = .ok (.iload_n 1, 1) := by decide +kernel
theorem dX5_ofKind_20 : decode cX5_ofKind 20 = .ok (.if_icmp .ne 7, 3) := by decide +kernel
theorem dX5_ofKind_23 : decode cX5_ofKind 23 = .ok (.iconst 1, 1) := by decide +kernel
theorem dX5_ofKind_24 : decode cX5_ofKind 24 = .ok (.goto 4, 3) := by decide +kernel
theorem dX5_ofKind_27 : decode cX5_ofKind 27 = .ok (.iconst 0, 1) := by decide +kernel
theorem dX5_ofKind_28 : decode cX5_ofKind 28 = .ok (.iadd, 1) := by decide +kernel
theorem dX5_ofKind_29 : decode cX5_ofKind 29 = .ok (.istore_n 2, 1) := by decide +kernel
theorem dX5_ofKind_30 : decode cX5_ofKind 30 = .ok (.iinc 3 1, 3) := by decide +kernel
theorem dX5_ofKind_33 : decode cX5_ofKind 33 = .ok (.goto (-29), 3) := by decide +kernel
theorem dX5_ofKind_36 : decode cX5_ofKind 36 = .ok (.iload_n 2, 1) := by decide +kernel
theorem dX5_ofKind_37 : decode cX5_ofKind 37 = .ok (.ireturn, 1) := by decide +kernel
theorem dX5_ofSign_0 : decode cX5_ofSign 0 = .ok (.iconst 0, 1) := by decide +kernel
theorem dX5_ofSign_1 : decode cX5_ofSign 1 = .ok (.istore_n 2, 1) := by decide +kernel
theorem dX5_ofSign_2 : decode cX5_ofSign 2 = .ok (.iconst 0, 1) := by decide +kernel
theorem dX5_ofSign_3 : decode cX5_ofSign 3 = .ok (.istore_n 3, 1) := by decide +kernel
theorem dX5_ofSign_4 : decode cX5_ofSign 4 = .ok (.iload_n 3, 1) := by decide +kernel
theorem dX5_ofSign_5 : decode cX5_ofSign 5 = .ok (.aload_n 0, 1) := by decide +kernel
theorem dX5_ofSign_6 : decode cX5_ofSign 6 = .ok (.getfield 35, 3) := by decide +kernel
theorem dX5_ofSign_9 : decode cX5_ofSign 9 = .ok (.if_icmp .ge 27, 3) := by decide +kernel
theorem dX5_ofSign_12 : decode cX5_ofSign 12 = .ok (.iload_n 2, 1) := by decide +kernel
theorem dX5_ofSign_13 : decode cX5_ofSign 13 = .ok (.aload_n 0, 1) := by decide +kernel
theorem dX5_ofSign_14 : decode cX5_ofSign 14 = .ok (.getfield 26, 3) := by decide +kernel
theorem dX5_ofSign_17 : decode cX5_ofSign 17 = .ok (.iload_n 3, 1) := by decide +kernel
theorem dX5_ofSign_18 : decode cX5_ofSign 18 = .ok (.iaload, 1) := by decide +kernel
theorem dX5_ofSign_19 : decode cX5_ofSign 19 = .ok (.iload_n 1, 1) := by decide +kernel
theorem dX5_ofSign_20 : decode cX5_ofSign 20 = .ok (.if_icmp .ne 7, 3) := by decide +kernel
theorem dX5_ofSign_23 : decode cX5_ofSign 23 = .ok (.iconst 1, 1) := by decide +kernel
theorem dX5_ofSign_24 : decode cX5_ofSign 24 = .ok (.goto 4, 3) := by decide +kernel
theorem dX5_ofSign_27 : decode cX5_ofSign 27 = .ok (.iconst 0, 1) := by decide +kernel
theorem dX5_ofSign_28 : decode cX5_ofSign 28 = .ok (.iadd, 1) := by decide +kernel
theorem dX5_ofSign_29 : decode cX5_ofSign 29 = .ok (.istore_n 2, 1) := by decide +kernel
theorem dX5_ofSign_30 : decode cX5_ofSign 30 = .ok (.iinc 3 1, 3) := by decide +kernel
theorem dX5_ofSign_33 : decode cX5_ofSign 33 = .ok (.goto (-29), 3) := by decide +kernel
theorem dX5_ofSign_36 : decode cX5_ofSign 36 = .ok (.iload_n 2, 1) := by decide +kernel
theorem dX5_ofSign_37 : decode cX5_ofSign 37 = .ok (.ireturn, 1) := by decide +kernel
set_option maxRecDepth 20000 in
theorem ggX5_sort_X5_ofKind : GoodIn wsX5_sort wsX5_ofKind := goodIn_r _ [6, 1, 7, 13, 14, 15, 16, 17, 18, 19, 20, 21, 22, 23, 24, 25, 26, 27, 28, 29, 30, 31, 32, 33, 34, 35, 36] (by decide +kernel) (by decide +kernel)
set_option maxRecDepth 20000 in
theorem gX5_sort_X5_ofKind : GoodIn wsX5_sort (wsV RX5 142 RX5 yX5_ofKind wsX5_ofKind) := goodIn_app (goodIn_of _ (by decide +kernel)) ggX5_sort_X5_ofKind
set_option maxRecDepth 20000 in
theorem ggX5_sort_X5_ofSign : GoodIn wsX5_sort wsX5_ofSign := goodIn_r _ [11, 1, 12, 13, 14, 15, 16, 17, 18, 19, 20, 21, 22, 23, 24, 25, 26, 27, 28, 29, 30, 31, 32, 33, 34, 35, 36] (by decide +kernel) (by decide +kernel)
set_option maxRecDepth 20000 in
theorem gX5_sort_X5_ofSign : GoodIn wsX5_sort (wsV RX5 145 RX5 yX5_ofSign wsX5_ofSign) := goodIn_app (goodIn_of _ (by decide +kernel)) ggX5_sort_X5_ofSign
theorem dX5_sort_0 : decode cX5_sort 0 = .ok (.aload_n 0, 1) := by decide +kernel
theorem dX5_sort_1 : decode cX5_sort 1 = .ok (.getfield 35, 3) := by decide +kernel
theorem dX5_sort_4 : decode cX5_sort 4 = .ok (.iconst (-1), 1) := by decide +kernel
theorem dX5_sort_5 : decode cX5_sort 5 = .ok (.if_icmp .ne 5, 3) := by decide +kernel
theorem dX5_sort_8 : decode cX5_sort 8 = .ok (.iconst (-1), 1) := by decide +kernel
theorem dX5_sort_9 : decode cX5_sort 9 = .ok (.ireturn, 1) := by decide +kernel
theorem dX5_sort_10 : decode cX5_sort 10 = .ok (.aload_n 0, 1) := by decide +kernel
theorem dX5_sort_11 : decode cX5_sort 11 = .ok (.iconst 0, 1) := by decide +kernel
theorem dX5_sort_12 : decode cX5_sort 12 = .ok (.invokevirtual 142, 3) := by decide +kernel
theorem dX5_sort_15 : decode cX5_sort 15 = .ok (.istore_n 1, 1) := by decide +kernel
theorem dX5_sort_16 : decode cX5_sort 16 = .ok (.aload_n 0, 1) := by decide +kernel
theorem dX5_sort_17 : decode cX5_sort 17 = .ok (.bipush 12, 2) := by decide +kernel
theorem dX5_sort_19 : decode cX5_sort 19 = .ok (.invokevirtual 142, 3) := by decide +kernel
theorem dX5_sort_22 : decode cX5_sort 22 = .ok (.istore_n 2, 1) := by decide +kernel
theorem dX5_sort_23 : decode cX5_sort 23 = .ok (.aload_n 0, 1) := by decide +kernel
theorem dX5_sort_24 : decode cX5_sort 24 = .ok (.bipush 13, 2) := by decide +kernel
theorem dX5_sort_26 : decode cX5_sort 26 = .ok (.invokevirtual 142, 3) := by decide +kernel
theorem dX5_sort_29 : decode cX5_sort 29 = .ok (.istore_n 3, 1) := by decide +kernel
theorem dX5_sort_30 : decode cX5_sort 30 = .ok (.aload_n 0, 1) := by decide +kernel
theorem dX5_sort_31 : decode cX5_sort 31 = .ok (.bipush 18, 2) := by decide +kernel
theorem dX5_sort_33 : decode cX5_sort 33 = .ok (.invokevirtual 142, 3) := by decide +kernel
theorem dX5_sort_36 : decode cX5_sort 36 = .ok (.ifCond .le 14, 3) := by decide +kernel
theorem dX5_sort_39 : decode cX5_sort 39 = .ok (.iload_n 1, 1) := by decide +kernel
theorem dX5_sort_40 : decode cX5_sort 40 = .ok (.ifCond .le 8, 3) := by decide +kernel
theorem dX5_sort_43 : decode cX5_sort 43 = .ok (.bipush 6, 2) := by decide +kernel
theorem dX5_sort_45 : decode cX5_sort 45 = .ok (.goto 4, 3) := by decide +kernel
theorem dX5_sort_48 : decode cX5_sort 48 = .ok (.iconst 5, 1) := by decide +kernel
theorem dX5_sort_49 : decode cX5_sort 49 = .ok (.ireturn, 1) := by decide +kernel
theorem dX5_sort_50 : decode cX5_sort 50 = .ok (.iload_n 3, 1) := by decide +kernel
theorem dX5_sort_51 : decode cX5_sort 51 = .ok (.ifCond .le 30, 3) := by decide +kernel
theorem dX5_sort_54 : decode cX5_sort 54 = .ok (.iload_n 1, 1) := by decide +kernel
theorem dX5_sort_55 : decode cX5_sort 55 = .ok (.ifCond .le 7, 3) := by decide +kernel
theorem dX5_sort_58 : decode cX5_sort 58 = .ok (.iconst 2, 1) := by decide +kernel
theorem dX5_sort_59 : decode cX5_sort 59 = .ok (.goto 21, 3) := by decide +kernel
theorem dX5_sort_62 : decode cX5_sort 62 = .ok (.aload_n 0, 1) := by decide +kernel
theorem dX5_sort_63 : decode cX5_sort 63 = .ok (.bipush 65, 2) := by decide +kernel
theorem dX5_sort_65 : decode cX5_sort 65 = .ok (.invokevirtual 145, 3) := by decide +kernel
theorem dX5_sort_68 : decode cX5_sort 68 = .ok (.aload_n 0, 1) := by decide +kernel
theorem dX5_sort_69 : decode cX5_sort 69 = .ok (.getfield 35, 3) := by decide +kernel
theorem dX5_sort_72 : decode cX5_sort 72 = .ok (.if_icmp .ne 7, 3) := by decide +kernel
theorem dX5_sort_75 : decode cX5_sort 75 = .ok (.iconst 0, 1) := by decide +kernel
theorem dX5_sort_76 : decode cX5_sort 76 = .ok (.goto 4, 3) := by decide +kernel
theorem dX5_sort_79 : decode cX5_sort 79 = .ok (.iconst 1, 1) := by decide +kernel
theorem dX5_sort_80 : decode cX5_sort 80 = .ok (.ireturn, 1) := by decide +kernel
theorem dX5_sort_81 : decode cX5_sort 81 = .ok (.iload_n 2, 1) := by decide +kernel
theorem dX5_sort_82 : decode cX5_sort 82 = .ok (.aload_n 0, 1) := by decide +kernel
theorem dX5_sort_83 : decode cX5_sort 83 = .ok (.bipush 14, 2) := by decide +kernel
theorem dX5_sort_85 : decode cX5_sort 85 = .ok (.invokevirtual 142, 3) := by decide +kernel
theorem dX5_sort_88 : decode cX5_sort 88 = .ok (.iadd, 1) := by decide +kernel
theorem dX5_sort_89 : decode cX5_sort 89 = .ok (.aload_n 0, 1) := by decide +kernel
theorem dX5_sort_90 : decode cX5_sort 90 = .ok (.bipush 15, 2) := by decide +kernel
theorem dX5_sort_92 : decode cX5_sort 92 = .ok (.invokevirtual 142, 3) := by decide +kernel
theorem dX5_sort_95 : decode cX5_sort 95 = .ok (.iadd, 1) := by decide +kernel
theorem dX5_sort_96 : decode cX5_sort 96 = .ok (.aload_n 0, 1) := by decide +kernel
theorem dX5_sort_97 : decode cX5_sort 97 = .ok (.bipush 16, 2) := by decide +kernel
theorem dX5_sort_99 : decode cX5_sort 99 = .ok (.invokevirtual 142, 3) := by decide +kernel
theorem dX5_sort_102 : decode cX5_sort 102 = .ok (.iadd, 1) := by decide +kernel
theorem dX5_sort_103 : decode cX5_sort 103 = .ok (.aload_n 0, 1) := by decide +kernel
theorem dX5_sort_104 : decode cX5_sort 104 = .ok (.bipush 17, 2) := by decide +kernel
theorem dX5_sort_106 : decode cX5_sort 106 = .ok (.invokevirtual 142, 3) := by decide +kernel
theorem dX5_sort_109 : decode cX5_sort 109 = .ok (.iadd, 1) := by decide +kernel
theorem dX5_sort_110 : decode cX5_sort 110 = .ok (.aload_n 0, 1) := by decide +kernel
theorem dX5_sort_111 : decode cX5_sort 111 = .ok (.getfield 35, 3) := by decide +kernel
theorem dX5_sort_114 : decode cX5_sort 114 = .ok (.if_icmp .ne 7, 3) := by decide +kernel
theorem dX5_sort_117 : decode cX5_sort 117 = .ok (.iconst 3, 1) := by decide +kernel
theorem dX5_sort_118 : decode cX5_sort 118 = .ok (.goto 4, 3) := by decide +kernel
theorem dX5_sort_121 : decode cX5_sort 121 = .ok (.iconst 4, 1) := by decide +kernel
theorem dX5_sort_122 : decode cX5_sort 122 = .ok (.ireturn, 1) := by decide +kernel
set_option maxRecDepth 20000 in
theorem ggX5_category_X5_sort : GoodIn wsX5_category wsX5_sort := goodIn_r _ [6, 7, 8, 9, 10, 5, 11, 12, 13, 14, 15, 16, 17, 18, 19, 20, 21, 22, 23, 24, 25, 26, 27, 28, 29, 30, 31, 32, 33, 34, 35, 36, 37, 38, 39, 40, 41] (by decide +kernel) (by decide +kernel)
set_option maxRecDepth 20000 in
theorem gX5_category_X5_sort : GoodIn wsX5_category (wsV RX5 148 RX5 yX5_sort wsX5_sort) := goodIn_app (goodIn_of _ (by decide +kernel)) ggX5_category_X5_sort
theorem dX5_category_0 : decode cX5_category 0 = .ok (.aload_n 0, 1) := by decide +kernel
theorem dX5_category_1 : decode cX5_category 1 = .ok (.iconst 0, 1) := by decide +kernel
theorem dX5_category_2 : decode cX5_category 2 = .ok (.putfield 69, 3) := by decide +kernel
theorem dX5_category_5 : decode cX5_category 5 = .ok (.aload_n 0, 1) := by decide +kernel
theorem dX5_category_6 : decode cX5_category 6 = .ok (.invokevirtual 148, 3) := by decide +kernel
theorem dX5_category_9 : decode cX5_category 9 = .ok (.ireturn, 1) := by decide +kernel
theorem dX5_isDigitOf_0 : decode cX5_isDigitOf 0 = .ok (.aload_n 0, 1) := by decide +kernel
theorem dX5_isDigitOf_1 : decode cX5_isDigitOf 1 = .ok (.getfield 29, 3) := by decide +kernel
theorem dX5_isDigitOf_4 : decode cX5_isDigitOf 4 = .ok (.iload_n 1, 1) := by decide +kernel
theorem dX5_isDigitOf_5 : decode cX5_isDigitOf 5 = .ok (.iaload, 1) := by decide +kernel
theorem dX5_isDigitOf_6 : decode cX5_isDigitOf 6 = .ok (.istore_n 2, 1) := by decide +kernel
theorem dX5_isDigitOf_7 : decode cX5_isDigitOf 7 = .ok (.iload_n 2, 1) := by decide +kernel
theorem dX5_isDigitOf_8 : decode cX5_isDigitOf 8 = .ok (.bipush 12, 2) := by decide +kernel
theorem dX5_isDigitOf_10 : decode cX5_isDigitOf 10 = .ok (.if_icmp .eq 27, 3) := by decide +kernel
theorem dX5_isDigitOf_13 : decode cX5_isDigitOf 13 = .ok (.iload_n 2, 1) := by decide +kernel
theorem dX5_isDigitOf_14 : decode cX5_isDigitOf 14 = .ok (.bipush 6, 2) := by decide +kernel
theorem dX5_isDigitOf_16 : decode cX5_isDigitOf 16 = .ok (.if_icmp .eq 21, 3) := by decide +kernel
theorem dX5_isDigitOf_19 : decode cX5_isDigitOf 19 = .ok (.iload_n 2, 1) := by decide +kernel
theorem dX5_isDigitOf_20 : decode cX5_isDigitOf 20 = .ok (.bipush 7, 2) := by decide +kernel
theorem dX5_isDigitOf_22 : decode cX5_isDigitOf 22 = .ok (.if_icmp .eq 15, 3) := by decide +kernel
theorem dX5_isDigitOf_25 : decode cX5_isDigitOf 25 = .ok (.iload_n 2, 1) := by decide +kernel
theorem dX5_isDigitOf_26 : decode cX5_isDigitOf 26 = .ok (.bipush 16, 2) := by decide +kernel
theorem dX5_isDigitOf_28 : decode cX5_isDigitOf 28 = .ok (.if_icmp .eq 9, 3) := by decide +kernel
theorem dX5_isDigitOf_31 : decode cX5_isDigitOf 31 = .ok (.iload_n 2, 1) := by decide +kernel
theorem dX5_isDigitOf_32 : decode cX5_isDigitOf 32 = .ok (.bipush 17, 2) := by decide +kernel
theorem dX5_isDigitOf_34 : decode cX5_isDigitOf 34 = .ok (.if_icmp .ne 5, 3) := by decide +kernel
theorem dX5_isDigitOf_37 : decode cX5_isDigitOf 37 = .ok (.iconst 1, 1) := by decide +kernel
theorem dX5_isDigitOf_38 : decode cX5_isDigitOf 38 = .ok (.ireturn, 1) := by decide +kernel
theorem dX5_isDigitOf_39 : decode cX5_isDigitOf 39 = .ok (.iconst 1, 1) := by decide +kernel
theorem dX5_isDigitOf_40 : decode cX5_isDigitOf 40 = .ok (.istore_n 3, 1) := by decide +kernel
theorem dX5_isDigitOf_41 : decode cX5_isDigitOf 41 = .ok (.iconst 0, 1) := by decide +kernel
theorem dX5_isDigitOf_42 : decode cX5_isDigitOf 42 = .ok (.istore 4, 2) := by decide +kernel
theorem dX5_isDigitOf_44 : decode cX5_isDigitOf 44 = .ok (.iload 4, 2) := by decide +kernel
theorem dX5_isDigitOf_46 : decode cX5_isDigitOf 46 = .ok (.iload_n 1, 1) := by decide +kernel
theorem dX5_isDigitOf_47 : decode cX5_isDigitOf 47 = .ok (.if_icmp .ge 35, 3) := by decide +kernel
theorem dX5_isDigitOf_50 : decode cX5_isDigitOf 50 = .ok (.iload_n 3, 1) := by decide +kernel
theorem dX5_isDigitOf_51 : decode cX5_isDigitOf 51 = .ok (.ifCond .eq 31, 3) := by decide +kernel
theorem dX5_isDigitOf_54 : decode cX5_isDigitOf 54 = .ok (.aload_n 0, 1) := by decide +kernel
theorem dX5_isDigitOf_55 : decode cX5_isDigitOf 55 = .ok (.getfield 26, 3) := by decide +kernel
theorem dX5_isDigitOf_58 : decode cX5_isDigitOf 58 = .ok (.iload 4, 2) := by decide +kernel
theorem dX5_isDigitOf_60 : decode cX5_isDigitOf 60 = .ok (.iaload, 1) := by decide +kernel
theorem dX5_isDigitOf_61 : decode cX5_isDigitOf 61 = .ok (.aload_n 0, 1) := by decide +kernel
theorem dX5_isDigitOf_62 : decode cX5_isDigitOf 62 = .ok (.getfield 26, 3) := by decide +kernel
theorem dX5_isDigitOf_65 : decode cX5_isDigitOf 65 = .ok (.iload_n 1, 1) := by decide +kernel
theorem dX5_isDigitOf_66 : decode cX5_isDigitOf 66 = .ok (.iaload, 1) := by decide +kernel
theorem dX5_isDigitOf_67 : decode cX5_isDigitOf 67 = .ok (.if_icmp .eq 7, 3) := by decide +kernel
theorem dX5_isDigitOf_70 : decode cX5_isDigitOf 70 = .ok (.iconst 1, 1) := by decide +kernel
theorem dX5_isDigitOf_71 : decode cX5_isDigitOf 71 = .ok (.goto 4, 3) := by decide +kernel
theorem dX5_isDigitOf_74 : decode cX5_isDigitOf 74 = .ok (.iconst 0, 1) := by decide +kernel
theorem dX5_isDigitOf_75 : decode cX5_isDigitOf 75 = .ok (.istore_n 3, 1) := by decide +kernel
theorem dX5_isDigitOf_76 : decode cX5_isDigitOf 76 = .ok (.iinc 4 1, 3) := by decide +kernel
theorem dX5_isDigitOf_79 : decode cX5_isDigitOf 79 = .ok (.goto (-35), 3) := by decide +kernel
theorem dX5_isDigitOf_82 : decode cX5_isDigitOf 82 = .ok (.iload_n 2, 1) := by decide +kernel
theorem dX5_isDigitOf_83 : decode cX5_isDigitOf 83 = .ok (.bipush 7, 2) := by decide +kernel
theorem dX5_isDigitOf_85 : decode cX5_isDigitOf 85 = .ok (.if_icmp .le 17, 3) := by decide +kernel
theorem dX5_isDigitOf_88 : decode cX5_isDigitOf 88 = .ok (.iload_n 2, 1) := by decide +kernel
theorem dX5_isDigitOf_89 : decode cX5_isDigitOf 89 = .ok (.bipush 12, 2) := by decide +kernel
theorem dX5_isDigitOf_91 : decode cX5_isDigitOf 91 = .ok (.if_icmp .ge 11, 3) := by decide +kernel
theorem dX5_isDigitOf_94 : decode cX5_isDigitOf 94 = .ok (.iload_n 3, 1) := by decide +kernel
theorem dX5_isDigitOf_95 : decode cX5_isDigitOf 95 = .ok (.ifCond .ne 7, 3) := by decide +kernel
theorem dX5_isDigitOf_98 : decode cX5_isDigitOf 98 = .ok (.iconst 1, 1) := by decide +kernel
theorem dX5_isDigitOf_99 : decode cX5_isDigitOf 99 = .ok (.goto 4, 3) := by decide +kernel
theorem dX5_isDigitOf_102 : decode cX5_isDigitOf 102 = .ok (.iconst 0, 1) := by decide +kernel
theorem dX5_isDigitOf_103 : decode cX5_isDigitOf 103 = .ok (.ireturn, 1) := by decide +kernel
theorem dX5_point_0 : decode cX5_point 0 = .ok (.iconst 0, 1) := by decide +kernel
theorem dX5_point_1 : decode cX5_point 1 = .ok (.istore_n 1, 1) := by decide +kernel
theorem dX5_point_2 : decode cX5_point 2 = .ok (.iload_n 1, 1) := by decide +kernel
theorem dX5_point_3 : decode cX5_point 3 = .ok (.aload_n 0, 1) := by decide +kernel
theorem dX5_point_4 : decode cX5_point 4 = .ok (.getfield 35, 3) := by decide +kernel
theorem dX5_point_7 : decode cX5_point 7 = .ok (.if_icmp .ge 32, 3) := by decide +kernel
theorem dX5_point_10 : decode cX5_point 10 = .ok (.aload_n 0, 1) := by decide +kernel
theorem dX5_point_11 : decode cX5_point 11 = .ok (.getfield 29, 3) := by decide +kernel
theorem dX5_point_14 : decode cX5_point 14 = .ok (.iload_n 1, 1) := by decide +kernel
theorem dX5_point_15 : decode cX5_point 15 = .ok (.iaload, 1) := by decide +kernel
theorem dX5_point_16 : decode cX5_point 16 = .ok (.iconst 2, 1) := by decide +kernel
theorem dX5_point_17 : decode cX5_point 17 = .ok (.if_icmp .eq 14, 3) := by decide +kernel
theorem dX5_point_20 : decode cX5_point 20 = .ok (.aload_n 0, 1) := by decide +kernel
theorem dX5_point_21 : decode cX5_point 21 = .ok (.getfield 29, 3) := by decide +kernel
theorem dX5_point_24 : decode cX5_point 24 = .ok (.iload_n 1, 1) := by decide +kernel
theorem dX5_point_25 : decode cX5_point 25 = .ok (.iaload, 1) := by decide +kernel
theorem dX5_point_26 : decode cX5_point 26 = .ok (.bipush 15, 2) := by decide +kernel
theorem dX5_point_28 : decode cX5_point 28 = .ok (.if_icmp .ne 5, 3) := by decide +kernel
theorem dX5_point_31 : decode cX5_point 31 = .ok (.iload_n 1, 1) := by decide +kernel
theorem dX5_point_32 : decode cX5_point 32 = .ok (.ireturn, 1) := by decide +kernel
theorem dX5_point_33 : decode cX5_point 33 = .ok (.iinc 1 1, 3) := by decide +kernel
theorem dX5_point_36 : decode cX5_point 36 = .ok (.goto (-34), 3) := by decide +kernel
theorem dX5_point_39 : decode cX5_point 39 = .ok (.iconst 0, 1) := by decide +kernel
theorem dX5_point_40 : decode cX5_point 40 = .ok (.istore_n 1, 1) := by decide +kernel
theorem dX5_point_41 : decode cX5_point 41 = .ok (.iload_n 1, 1) := by decide +kernel
theorem dX5_point_42 : decode cX5_point 42 = .ok (.aload_n 0, 1) := by decide +kernel
theorem dX5_point_43 : decode cX5_point 43 = .ok (.getfield 35, 3) := by decide +kernel
theorem dX5_point_46 : decode cX5_point 46 = .ok (.if_icmp .ge 22, 3) := by decide +kernel
theorem dX5_point_49 : decode cX5_point 49 = .ok (.aload_n 0, 1) := by decide +kernel
theorem dX5_point_50 : decode cX5_point 50 = .ok (.getfield 29, 3) := by decide +kernel
theorem dX5_point_53 : decode cX5_point 53 = .ok (.iload_n 1, 1) := by decide +kernel
theorem dX5_point_54 : decode cX5_point 54 = .ok (.iaload, 1) := by decide +kernel
theorem dX5_point_55 : decode cX5_point 55 = .ok (.bipush 16, 2) := by decide +kernel
theorem dX5_point_57 : decode cX5_point 57 = .ok (.if_icmp .ne 5, 3) := by decide +kernel
theorem dX5_point_60 : decode cX5_point 60 = .ok (.iload_n 1, 1) := by decide +kernel
theorem dX5_point_61 : decode cX5_point 61 = .ok (.ireturn, 1) := by decide +kernel
theorem dX5_point_62 : decode cX5_point 62 = .ok (.iinc 1 1, 3) := by decide +kernel
theorem dX5_point_65 : decode cX5_point 65 = .ok (.goto (-24), 3) := by decide +kernel
theorem dX5_point_68 : decode cX5_point 68 = .ok (.aload_n 0, 1) := by decide +kernel
theorem dX5_point_69 : decode cX5_point 69 = .ok (.getfield 35, 3) := by decide +kernel
theorem dX5_point_72 : decode cX5_point 72 = .ok (.ireturn, 1) := by decide +kernel
set_option maxRecDepth 20000 in
theorem ggX5_digitsOf_X5_point : GoodIn wsX5_digitsOf wsX5_point := goodIn_r _ [6, 1, 7, 13, 14, 15, 16, 17, 18, 19, 20, 21, 22, 23, 24, 25, 26, 27, 28, 29, 30, 31, 32, 33, 34, 35, 36] (by decide +kernel) (by decide +kernel)
set_option maxRecDepth 20000 in
theorem gX5_digitsOf_X5_point : GoodIn wsX5_digitsOf (wsV RX5 151 RX5 yX5_point wsX5_point) := goodIn_app (goodIn_of _ (by decide +kernel)) ggX5_digitsOf_X5_point
set_option maxRecDepth 20000 in
theorem ggX5_digitsOf_X5_isDigitOf : GoodIn wsX5_digitsOf wsX5_isDigitOf := goodIn_r _ [11, 7, 12, 13, 14, 15, 16, 17, 18, 19, 20, 21, 22, 23, 24, 25, 26, 27, 28, 29, 30, 31, 32, 33, 34, 35, 36] (by decide +kernel) (by decide +kernel)
set_option maxRecDepth 20000 in
theorem gX5_digitsOf_X5_isDigitOf : GoodIn wsX5_digitsOf (wsV RX5 154 RX5 yX5_isDigitOf wsX5_isDigitOf) := goodIn_app (goodIn_of _ (by decide +kernel)) ggX5_digitsOf_X5_isDigitOf
theorem dX5_digitsOf_0 : decode cX5_digitsOf 0 = .ok (.aload_n 0, 1) := by decide +kernel
theorem dX5_digitsOf_1 : decode cX5_digitsOf 1 = .ok (.invokevirtual 151, 3) := by decide +kernel
theorem dX5_digitsOf_4 : decode cX5_digitsOf 4 = .ok (.istore_n 2, 1) := by decide +kernel
theorem dX5_digitsOf_5 : decode cX5_digitsOf 5 = .ok (.iconst 0, 1) := by decide +kernel
theorem dX5_digitsOf_6 : decode cX5_digitsOf 6 = .ok (.istore_n 3, 1) := by decide +kernel
theorem dX5_digitsOf_7 : decode cX5_digitsOf 7 = .ok (.iload_n 1, 1) := by decide +kernel
theorem dX5_digitsOf_8 : decode cX5_digitsOf 8 = .ok (.ifCond .ne 7, 3) := by decide +kernel
theorem dX5_digitsOf_11 : decode cX5_digitsOf 11 = .ok (.iconst 0, 1) := by decide +kernel
theorem dX5_digitsOf_12 : decode cX5_digitsOf 12 = .ok (.goto 4, 3) := by decide +kernel
theorem dX5_digitsOf_15 : decode cX5_digitsOf 15 = .ok (.iload_n 2, 1) := by decide +kernel
theorem dX5_digitsOf_16 : decode cX5_digitsOf 16 = .ok (.istore 4, 2) := by decide +kernel
theorem dX5_digitsOf_18 : decode cX5_digitsOf 18 = .ok (.iload 4, 2) := by decide +kernel
theorem dX5_digitsOf_20 : decode cX5_digitsOf 20 = .ok (.iload_n 1, 1) := by decide +kernel
theorem dX5_digitsOf_21 : decode cX5_digitsOf 21 = .ok (.ifCond .ne 7, 3) := by decide +kernel
theorem dX5_digitsOf_24 : decode cX5_digitsOf 24 = .ok (.iload_n 2, 1) := by decide +kernel
theorem dX5_digitsOf_25 : decode cX5_digitsOf 25 = .ok (.goto 7, 3) := by decide +kernel
theorem dX5_digitsOf_28 : decode cX5_digitsOf 28 = .ok (.aload_n 0, 1) := by decide +kernel
theorem dX5_digitsOf_29 : decode cX5_digitsOf 29 = .ok (.getfield 35, 3) := by decide +kernel
theorem dX5_digitsOf_32 : decode cX5_digitsOf 32 = .ok (.if_icmp .ge 26, 3) := by decide +kernel
theorem dX5_digitsOf_35 : decode cX5_digitsOf 35 = .ok (.iload_n 3, 1) := by decide +kernel
theorem dX5_digitsOf_36 : decode cX5_digitsOf 36 = .ok (.aload_n 0, 1) := by decide +kernel
theorem dX5_digitsOf_37 : decode cX5_digitsOf 37 = .ok (.iload 4, 2) := by decide +kernel
theorem dX5_digitsOf_39 : decode cX5_digitsOf 39 = .ok (.invokevirtual 154, 3) := by decide +kernel
theorem dX5_digitsOf_42 : decode cX5_digitsOf 42 = .ok (.ifCond .eq 7, 3) := by decide +kernel
theorem dX5_digitsOf_45 : decode cX5_digitsOf 45 = .ok (.iconst 1, 1) := by decide +kernel
theorem dX5_digitsOf_46 : decode cX5_digitsOf 46 = .ok (.goto 4, 3) := by decide +kernel
theorem dX5_digitsOf_49 : decode cX5_digitsOf 49 = .ok (.iconst 0, 1) := by decide +kernel
theorem dX5_digitsOf_50 : decode cX5_digitsOf 50 = .ok (.iadd, 1) := by decide +kernel
theorem dX5_digitsOf_51 : decode cX5_digitsOf 51 = .ok (.istore_n 3, 1) := by decide +kernel
theorem dX5_digitsOf_52 : decode cX5_digitsOf 52 = .ok (.iinc 4 1, 3) := by decide +kernel
theorem dX5_digitsOf_55 : decode cX5_digitsOf 55 = .ok (.goto (-37), 3) := by decide +kernel
theorem dX5_digitsOf_58 : decode cX5_digitsOf 58 = .ok (.iload_n 3, 1) := by decide +kernel
theorem dX5_digitsOf_59 : decode cX5_digitsOf 59 = .ok (.ireturn, 1) := by decide +kernel
set_option maxRecDepth 20000 in
theorem ggX5_isNumber_X5_sort : GoodIn wsX5_isNumber wsX5_sort := goodIn_r _ [6, 1, 7, 8, 9, 5, 10, 11, 12, 13, 14, 15, 16, 17, 18, 19, 20, 21, 22, 23, 24, 25, 26, 27, 28, 29, 30, 31, 32, 33, 34, 35, 36, 37, 38, 39, 40] (by decide +kernel) (by decide +kernel)
set_option maxRecDepth 20000 in
theorem gX5_isNumber_X5_sort : GoodIn wsX5_isNumber (wsV RX5 148 RX5 yX5_sort wsX5_sort) := goodIn_app (goodIn_of _ (by decide +kernel)) ggX5_isNumber_X5_sort
theorem dX5_isNumber_0 : decode cX5_isNumber 0 = .ok (.aload_n 0, 1) := by decide +kernel
theorem dX5_isNumber_1 : decode cX5_isNumber 1 = .ok (.getfield 35, 3) := by decide +kernel
theorem dX5_isNumber_4 : decode cX5_isNumber 4 = .ok (.iconst (-1), 1) := by decide +kernel
theorem dX5_isNumber_5 : decode cX5_isNumber 5 = .ok (.if_icmp .eq 23, 3) := by decide +kernel
theorem dX5_isNumber_8 : decode cX5_isNumber 8 = .ok (.aload_n 0, 1) := by decide +kernel
theorem dX5_isNumber_9 : decode cX5_isNumber 9 = .ok (.invokevirtual 148, 3) := by decide +kernel
theorem dX5_isNumber_12 : decode cX5_isNumber 12 = .ok (.iconst 3, 1) := by decide +kernel
theorem dX5_isNumber_13 : decode cX5_isNumber 13 = .ok (.if_icmp .eq 11, 3) := by decide +kernel
theorem dX5_isNumber_16 : decode cX5_isNumber 16 = .ok (.aload_n 0, 1) := by decide +kernel
theorem dX5_isNumber_17 : decode cX5_isNumber 17 = .ok (.invokevirtual 148, 3) := by decide +kernel
theorem dX5_isNumber_20 : decode cX5_isNumber 20 = .ok (.iconst 4, 1) := by decide +kernel
theorem dX5_isNumber_21 : decode cX5_isNumber 21 = .ok (.if_icmp .ne 7, 3) := by decide +kernel
theorem dX5_isNumber_24 : decode cX5_isNumber 24 = .ok (.iconst 1, 1) := by decide +kernel
theorem dX5_isNumber_25 : decode cX5_isNumber 25 = .ok (.goto 4, 3) := by decide +kernel
theorem dX5_isNumber_28 : decode cX5_isNumber 28 = .ok (.iconst 0, 1) := by decide +kernel
theorem dX5_isNumber_29 : decode cX5_isNumber 29 = .ok (.ireturn, 1) := by decide +kernel
set_option maxRecDepth 20000 in
theorem ggX5_digits_X5_isNumber : GoodIn wsX5_digits wsX5_isNumber := goodIn_r _ [6, 7, 8, 9, 10, 5, 11, 12, 13, 14, 15, 16, 17, 18, 19, 20, 21, 34, 35, 36, 37, 38, 39, 40, 41, 42, 43, 44, 45, 46, 47, 48, 49, 50, 51, 52, 53, 54, 55, 56, 57] (by decide +kernel) (by decide +kernel)
set_option maxRecDepth 20000 in
theorem gX5_digits_X5_isNumber : GoodIn wsX5_digits (wsV RX5 157 RX5 yX5_isNumber wsX5_isNumber) := goodIn_app (goodIn_of _ (by decide +kernel)) ggX5_digits_X5_isNumber
set_option maxRecDepth 20000 in
theorem ggX5_digits_X5_digitsOf : GoodIn wsX5_digits wsX5_digitsOf := goodIn_r _ [25, 7, 26, 27, 28, 5, 29, 16, 30, 31, 32, 33, 21, 34, 35, 36, 37, 38, 39, 40, 41, 42, 43, 44, 45, 46, 47, 48, 49, 50, 51, 52, 53, 54, 55, 56, 57] (by decide +kernel) (by decide +kernel)
set_option maxRecDepth 20000 in
theorem gX5_digits_X5_digitsOf : GoodIn wsX5_digits (wsV RX5 160 RX5 yX5_digitsOf wsX5_digitsOf) := goodIn_app (goodIn_of _ (by decide +kernel)) ggX5_digits_X5_digitsOf
theorem dX5_digits_0 : decode cX5_digits 0 = .ok (.aload_n 0, 1) := by decide +kernel
theorem dX5_digits_1 : decode cX5_digits 1 = .ok (.iconst 0, 1) := by decide +kernel
theorem dX5_digits_2 : decode cX5_digits 2 = .ok (.putfield 69, 3) := by decide +kernel
theorem dX5_digits_5 : decode cX5_digits 5 = .ok (.iload_n 1, 1) := by decide +kernel
theorem dX5_digits_6 : decode cX5_digits 6 = .ok (.ifCond .eq 8, 3) := by decide +kernel
theorem dX5_digits_9 : decode cX5_digits 9 = .ok (.iload_n 1, 1) := by decide +kernel
theorem dX5_digits_10 : decode cX5_digits 10 = .ok (.iconst 1, 1) := by decide +kernel
theorem dX5_digits_11 : decode cX5_digits 11 = .ok (.if_icmp .ne 10, 3) := by decide +kernel
theorem dX5_digits_14 : decode cX5_digits 14 = .ok (.aload_n 0, 1) := by decide +kernel
theorem dX5_digits_15 : decode cX5_digits 15 = .ok (.invokevirtual 157, 3) := by decide +kernel
theorem dX5_digits_18 : decode cX5_digits 18 = .ok (.ifCond .ne 7, 3) := by decide +kernel
theorem dX5_digits_21 : decode cX5_digits 21 = .ok (.iconst (-1), 1) := by decide +kernel
theorem dX5_digits_22 : decode cX5_digits 22 = .ok (.goto 8, 3) := by decide +kernel
theorem dX5_digits_25 : decode cX5_digits 25 = .ok (.aload_n 0, 1) := by decide +kernel
theorem dX5_digits_26 : decode cX5_digits 26 = .ok (.iload_n 1, 1) := by decide +kernel
theorem dX5_digits_27 : decode cX5_digits 27 = .ok (.invokevirtual 160, 3) := by decide +kernel
theorem dX5_digits_30 : decode cX5_digits 30 = .ok (.ireturn, 1) := by decide +kernel
set_option maxRecDepth 20000 in
theorem ggX5_scale_X5_isNumber : GoodIn wsX5_scale wsX5_isNumber := goodIn_r _ [6, 7, 8, 9, 10, 5, 11, 12, 13, 14, 15, 16, 17, 18, 19, 20, 21, 34, 35, 36, 37, 38, 39, 40, 41, 42, 43, 44, 45, 46, 47, 48, 49, 50, 51, 52, 53, 54, 55, 56, 57] (by decide +kernel) (by decide +kernel)
set_option maxRecDepth 20000 in
theorem gX5_scale_X5_isNumber : GoodIn wsX5_scale (wsV RX5 157 RX5 yX5_isNumber wsX5_isNumber) := goodIn_app (goodIn_of _ (by decide +kernel)) ggX5_scale_X5_isNumber
set_option maxRecDepth 20000 in
theorem ggX5_scale_X5_ofKind : GoodIn wsX5_scale wsX5_ofKind := goodIn_r _ [15, 7, 16, 34, 35, 36, 37, 38, 39, 40, 41, 42, 43, 44, 45, 46, 47, 48, 49, 50, 51, 52, 53, 54, 55, 56, 57] (by decide +kernel) (by decide +kernel)
set_option maxRecDepth 20000 in
theorem gX5_scale_X5_ofKind : GoodIn wsX5_scale (wsV RX5 142 RX5 yX5_ofKind wsX5_ofKind) := goodIn_app (goodIn_of _ (by decide +kernel)) ggX5_scale_X5_ofKind
set_option maxRecDepth 20000 in
theorem ggX5_scale_X5_digitsOf : GoodIn wsX5_scale wsX5_digitsOf := goodIn_r _ [25, 7, 26, 27, 28, 5, 29, 16, 30, 31, 32, 33, 21, 34, 35, 36, 37, 38, 39, 40, 41, 42, 43, 44, 45, 46, 47, 48, 49, 50, 51, 52, 53, 54, 55, 56, 57] (by decide +kernel) (by decide +kernel)
set_option maxRecDepth 20000 in
theorem gX5_scale_X5_digitsOf : GoodIn wsX5_scale (wsV RX5 160 RX5 yX5_digitsOf wsX5_digitsOf) := goodIn_app (goodIn_of _ (by decide +kernel)) ggX5_scale_X5_digitsOf
theorem dX5_scale_0 : decode cX5_scale 0 = .ok (.aload_n 0, 1) := by decide +kernel
theorem dX5_scale_1 : decode cX5_scale 1 = .ok (.iconst 0, 1) := by decide +kernel
theorem dX5_scale_2 : decode cX5_scale 2 = .ok (.putfield 69, 3) := by decide +kernel
theorem dX5_scale_5 : decode cX5_scale 5 = .ok (.aload_n 0, 1) := by decide +kernel
theorem dX5_scale_6 : decode cX5_scale 6 = .ok (.invokevirtual 157, 3) := by decide +kernel
theorem dX5_scale_9 : decode cX5_scale 9 = .ok (.ifCond .ne 5, 3) := by decide +kernel
theorem dX5_scale_12 : decode cX5_scale 12 = .ok (.iconst 0, 1) := by decide +kernel
theorem dX5_scale_13 : decode cX5_scale 13 = .ok (.ireturn, 1) := by decide +kernel
theorem dX5_scale_14 : decode cX5_scale 14 = .ok (.aload_n 0, 1) := by decide +kernel
theorem dX5_scale_15 : decode cX5_scale 15 = .ok (.bipush 17, 2) := by decide +kernel
theorem dX5_scale_17 : decode cX5_scale 17 = .ok (.invokevirtual 142, 3) := by decide +kernel
theorem dX5_scale_20 : decode cX5_scale 20 = .ok (.ifCond .le 14, 3) := by decide +kernel
theorem dX5_scale_23 : decode cX5_scale 23 = .ok (.iconst 0, 1) := by decide +kernel
theorem dX5_scale_24 : decode cX5_scale 24 = .ok (.aload_n 0, 1) := by decide +kernel
theorem dX5_scale_25 : decode cX5_scale 25 = .ok (.bipush 17, 2) := by decide +kernel
theorem dX5_scale_27 : decode cX5_scale 27 = .ok (.invokevirtual 142, 3) := by decide +kernel
theorem dX5_scale_30 : decode cX5_scale 30 = .ok (.isub, 1) := by decide +kernel
theorem dX5_scale_31 : decode cX5_scale 31 = .ok (.goto 8, 3) := by decide +kernel
theorem dX5_scale_34 : decode cX5_scale 34 = .ok (.aload_n 0, 1) := by decide +kernel
theorem dX5_scale_35 : decode cX5_scale 35 = .ok (.iconst 1, 1) := by decide +kernel
theorem dX5_scale_36 : decode cX5_scale 36 = .ok (.invokevirtual 160, 3) := by decide +kernel
theorem dX5_scale_39 : decode cX5_scale 39 = .ok (.ireturn, 1) := by decide +kernel
theorem dX5_follows_0 : decode cX5_follows 0 = .ok (.iload_n 1, 1) := by decide +kernel
theorem dX5_follows_1 : decode cX5_follows 1 = .ok (.ifCond .lt 23, 3) := by decide +kernel
theorem dX5_follows_4 : decode cX5_follows 4 = .ok (.iload_n 1, 1) := by decide +kernel
theorem dX5_follows_5 : decode cX5_follows 5 = .ok (.bipush 19, 2) := by decide +kernel
theorem dX5_follows_7 : decode cX5_follows 7 = .ok (.if_icmp .ge 17, 3) := by decide +kernel
theorem dX5_follows_10 : decode cX5_follows 10 = .ok (.iload_n 2, 1) := by decide +kernel
theorem dX5_follows_11 : decode cX5_follows 11 = .ok (.ifCond .lt 13, 3) := by decide +kernel
theorem dX5_follows_14 : decode cX5_follows 14 = .ok (.iload_n 2, 1) := by decide +kernel
theorem dX5_follows_15 : decode cX5_follows 15 = .ok (.bipush 19, 2) := by decide +kernel
theorem dX5_follows_17 : decode cX5_follows 17 = .ok (.if_icmp .ge 7, 3) := by decide +kernel
theorem dX5_follows_20 : decode cX5_follows 20 = .ok (.iconst 1, 1) := by decide +kernel
theorem dX5_follows_21 : decode cX5_follows 21 = .ok (.goto 4, 3) := by decide +kernel
theorem dX5_follows_24 : decode cX5_follows 24 = .ok (.iconst 0, 1) := by decide +kernel
theorem dX5_follows_25 : decode cX5_follows 25 = .ok (.istore_n 3, 1) := by decide +kernel
theorem dX5_follows_26 : decode cX5_follows 26 = .ok (.aload_n 0, 1) := by decide +kernel
theorem dX5_follows_27 : decode cX5_follows 27 = .ok (.iload_n 3, 1) := by decide +kernel
theorem dX5_follows_28 : decode cX5_follows 28 = .ok (.ifCond .eq 7, 3) := by decide +kernel
theorem dX5_follows_31 : decode cX5_follows 31 = .ok (.iconst 0, 1) := by decide +kernel
theorem dX5_follows_32 : decode cX5_follows 32 = .ok (.goto 4, 3) := by decide +kernel
theorem dX5_follows_35 : decode cX5_follows 35 = .ok (.iconst 1, 1) := by decide +kernel
theorem dX5_follows_36 : decode cX5_follows 36 = .ok (.putfield 69, 3) := by decide +kernel
theorem dX5_follows_39 : decode cX5_follows 39 = .ok (.iload_n 3, 1) := by decide +kernel
theorem dX5_follows_40 : decode cX5_follows 40 = .ok (.ifCond .eq 21, 3) := by decide +kernel
theorem dX5_follows_43 : decode cX5_follows 43 = .ok (.aload_n 0, 1) := by decide +kernel
theorem dX5_follows_44 : decode cX5_follows 44 = .ok (.getfield 60, 3) := by decide +kernel
theorem dX5_follows_47 : decode cX5_follows 47 = .ok (.iload_n 1, 1) := by decide +kernel
theorem dX5_follows_48 : decode cX5_follows 48 = .ok (.iaload, 1) := by decide +kernel
theorem dX5_follows_49 : decode cX5_follows 49 = .ok (.iload_n 2, 1) := by decide +kernel
theorem dX5_follows_50 : decode cX5_follows 50 = .ok (.ishr, 1) := by decide +kernel
theorem dX5_follows_51 : decode cX5_follows 51 = .ok (.iconst 1, 1) := by decide +kernel
theorem dX5_follows_52 : decode cX5_follows 52 = .ok (.iand, 1) := by decide +kernel
theorem dX5_follows_53 : decode cX5_follows 53 = .ok (.iconst 1, 1) := by decide +kernel
theorem dX5_follows_54 : decode cX5_follows 54 = .ok (.if_icmp .ne 7, 3) := by decide +kernel
theorem dX5_follows_57 : decode cX5_follows 57 = .ok (.iconst 1, 1) := by decide +kernel
theorem dX5_follows_58 : decode cX5_follows 58 = .ok (.goto 4, 3) := by decide +kernel
theorem dX5_follows_61 : decode cX5_follows 61 = .ok (.iconst 0, 1) := by decide +kernel
theorem dX5_follows_62 : decode cX5_follows 62 = .ok (.ireturn, 1) := by decide +kernel
set_option maxRecDepth 20000 in
theorem ggX5_currency_X5_great : GoodIn wsX5_currency wsX5_great := goodIn_r _ [6] (by decide +kernel) (by decide +kernel)
set_option maxRecDepth 20000 in
theorem gX5_currency_X5_great : GoodIn wsX5_currency (va_wsS RX5 79 yX5_great wsX5_great) := goodIn_app (goodIn_of _ (by decide +kernel)) ggX5_currency_X5_great
theorem dX5_currency_0 : decode cX5_currency 0 = .ok (.aload_n 0, 1) := by decide +kernel
theorem dX5_currency_1 : decode cX5_currency 1 = .ok (.iconst 0, 1) := by decide +kernel
theorem dX5_currency_2 : decode cX5_currency 2 = .ok (.putfield 69, 3) := by decide +kernel
theorem dX5_currency_5 : decode cX5_currency 5 = .ok (.iload_n 1, 1) := by decide +kernel
theorem dX5_currency_6 : decode cX5_currency 6 = .ok (.invokestatic 79, 3) := by decide +kernel
theorem dX5_currency_9 : decode cX5_currency 9 = .ok (.istore_n 2, 1) := by decide +kernel
theorem dX5_currency_10 : decode cX5_currency 10 = .ok (.iload_n 2, 1) := by decide +kernel
theorem dX5_currency_11 : decode cX5_currency 11 = .ok (.bipush 65, 2) := by decide +kernel
theorem dX5_currency_13 : decode cX5_currency 13 = .ok (.if_icmp .eq 69, 3) := by decide +kernel
theorem dX5_currency_16 : decode cX5_currency 16 = .ok (.iload_n 2, 1) := by decide +kernel
theorem dX5_currency_17 : decode cX5_currency 17 = .ok (.bipush 88, 2) := by decide +kernel
theorem dX5_currency_19 : decode cX5_currency 19 = .ok (.if_icmp .eq 63, 3) := by decide +kernel
theorem dX5_currency_22 : decode cX5_currency 22 = .ok (.iload_n 2, 1) := by decide +kernel
theorem dX5_currency_23 : decode cX5_currency 23 = .ok (.bipush 90, 2) := by decide +kernel
theorem dX5_currency_25 : decode cX5_currency 25 = .ok (.if_icmp .eq 57, 3) := by decide +kernel
theorem dX5_currency_28 : decode cX5_currency 28 = .ok (.iload_n 2, 1) := by decide +kernel
theorem dX5_currency_29 : decode cX5_currency 29 = .ok (.bipush 66, 2) := by decide +kernel
theorem dX5_currency_31 : decode cX5_currency 31 = .ok (.if_icmp .eq 51, 3) := by decide +kernel
theorem dX5_currency_34 : decode cX5_currency 34 = .ok (.iload_n 2, 1) := by decide +kernel
theorem dX5_currency_35 : decode cX5_currency 35 = .ok (.bipush 83, 2) := by decide +kernel
theorem dX5_currency_37 : decode cX5_currency 37 = .ok (.if_icmp .eq 45, 3) := by decide +kernel
theorem dX5_currency_40 : decode cX5_currency 40 = .ok (.iload_n 2, 1) := by decide +kernel
theorem dX5_currency_41 : decode cX5_currency 41 = .ok (.bipush 86, 2) := by decide +kernel
theorem dX5_currency_43 : decode cX5_currency 43 = .ok (.if_icmp .eq 39, 3) := by decide +kernel
theorem dX5_currency_46 : decode cX5_currency 46 = .ok (.iload_n 2, 1) := by decide +kernel
theorem dX5_currency_47 : decode cX5_currency 47 = .ok (.bipush 80, 2) := by decide +kernel
theorem dX5_currency_49 : decode cX5_currency 49 = .ok (.if_icmp .eq 33, 3) := by decide +kernel
theorem dX5_currency_52 : decode cX5_currency 52 = .ok (.iload_n 2, 1) := by decide +kernel
theorem dX5_currency_53 : decode cX5_currency 53 = .ok (.bipush 78, 2) := by decide +kernel
theorem dX5_currency_55 : decode cX5_currency 55 = .ok (.if_icmp .eq 27, 3) := by decide +kernel
theorem dX5_currency_58 : decode cX5_currency 58 = .ok (.iload_n 2, 1) := by decide +kernel
theorem dX5_currency_59 : decode cX5_currency 59 = .ok (.bipush 67, 2) := by decide +kernel
theorem dX5_currency_61 : decode cX5_currency 61 = .ok (.if_icmp .eq 21, 3) := by decide +kernel
theorem dX5_currency_64 : decode cX5_currency 64 = .ok (.iload_n 2, 1) := by decide +kernel
theorem dX5_currency_65 : decode cX5_currency 65 = .ok (.bipush 68, 2) := by decide +kernel
theorem dX5_currency_67 : decode cX5_currency 67 = .ok (.if_icmp .eq 15, 3) := by decide +kernel
theorem dX5_currency_70 : decode cX5_currency 70 = .ok (.iload_n 2, 1) := by decide +kernel
theorem dX5_currency_71 : decode cX5_currency 71 = .ok (.bipush 69, 2) := by decide +kernel
theorem dX5_currency_73 : decode cX5_currency 73 = .ok (.if_icmp .eq 9, 3) := by decide +kernel
theorem dX5_currency_76 : decode cX5_currency 76 = .ok (.iload_n 2, 1) := by decide +kernel
theorem dX5_currency_77 : decode cX5_currency 77 = .ok (.bipush 82, 2) := by decide +kernel
theorem dX5_currency_79 : decode cX5_currency 79 = .ok (.if_icmp .ne 7, 3) := by decide +kernel
theorem dX5_currency_82 : decode cX5_currency 82 = .ok (.iconst 1, 1) := by decide +kernel
theorem dX5_currency_83 : decode cX5_currency 83 = .ok (.goto 4, 3) := by decide +kernel
theorem dX5_currency_86 : decode cX5_currency 86 = .ok (.iconst 0, 1) := by decide +kernel
theorem dX5_currency_87 : decode cX5_currency 87 = .ok (.istore_n 3, 1) := by decide +kernel
theorem dX5_currency_88 : decode cX5_currency 88 = .ok (.iload_n 1, 1) := by decide +kernel
theorem dX5_currency_89 : decode cX5_currency 89 = .ok (.bipush 42, 2) := by decide +kernel
theorem dX5_currency_91 : decode cX5_currency 91 = .ok (.if_icmp .eq 69, 3) := by decide +kernel
theorem dX5_currency_94 : decode cX5_currency 94 = .ok (.iload_n 1, 1) := by decide +kernel
theorem dX5_currency_95 : decode cX5_currency 95 = .ok (.bipush 43, 2) := by decide +kernel
theorem dX5_currency_97 : decode cX5_currency 97 = .ok (.if_icmp .eq 63, 3) := by decide +kernel
theorem dX5_currency_100 : decode cX5_currency 100 = .ok (.iload_n 1, 1) := by decide +kernel
theorem dX5_currency_101 : decode cX5_currency 101 = .ok (.bipush 45, 2) := by decide +kernel
theorem dX5_currency_103 : decode cX5_currency 103 = .ok (.if_icmp .eq 57, 3) := by decide +kernel
theorem dX5_currency_106 : decode cX5_currency 106 = .ok (.iload_n 1, 1) := by decide +kernel
theorem dX5_currency_107 : decode cX5_currency 107 = .ok (.bipush 44, 2) := by decide +kernel
theorem dX5_currency_109 : decode cX5_currency 109 = .ok (.if_icmp .eq 51, 3) := by decide +kernel
theorem dX5_currency_112 : decode cX5_currency 112 = .ok (.iload_n 1, 1) := by decide +kernel
theorem dX5_currency_113 : decode cX5_currency 113 = .ok (.bipush 46, 2) := by decide +kernel
theorem dX5_currency_115 : decode cX5_currency 115 = .ok (.if_icmp .eq 45, 3) := by decide +kernel
theorem dX5_currency_118 : decode cX5_currency 118 = .ok (.iload_n 1, 1) := by decide +kernel
theorem dX5_currency_119 : decode cX5_currency 119 = .ok (.bipush 47, 2) := by decide +kernel
theorem dX5_currency_121 : decode cX5_currency 121 = .ok (.if_icmp .eq 39, 3) := by decide +kernel
theorem dX5_currency_124 : decode cX5_currency 124 = .ok (.iload_n 1, 1) := by decide +kernel
theorem dX5_currency_125 : decode cX5_currency 125 = .ok (.bipush 59, 2) := by decide +kernel
theorem dX5_currency_127 : decode cX5_currency 127 = .ok (.if_icmp .eq 33, 3) := by decide +kernel
theorem dX5_currency_130 : decode cX5_currency 130 = .ok (.iload_n 1, 1) := by decide +kernel
theorem dX5_currency_131 : decode cX5_currency 131 = .ok (.bipush 40, 2) := by decide +kernel
theorem dX5_currency_133 : decode cX5_currency 133 = .ok (.if_icmp .eq 27, 3) := by decide +kernel
theorem dX5_currency_136 : decode cX5_currency 136 = .ok (.iload_n 1, 1) := by decide +kernel
theorem dX5_currency_137 : decode cX5_currency 137 = .ok (.bipush 41, 2) := by decide +kernel
theorem dX5_currency_139 : decode cX5_currency 139 = .ok (.if_icmp .eq 21, 3) := by decide +kernel
theorem dX5_currency_142 : decode cX5_currency 142 = .ok (.iload_n 1, 1) := by decide +kernel
theorem dX5_currency_143 : decode cX5_currency 143 = .ok (.bipush 61, 2) := by decide +kernel
theorem dX5_currency_145 : decode cX5_currency 145 = .ok (.if_icmp .eq 15, 3) := by decide +kernel
theorem dX5_currency_148 : decode cX5_currency 148 = .ok (.iload_n 1, 1) := by decide +kernel
theorem dX5_currency_149 : decode cX5_currency 149 = .ok (.bipush 39, 2) := by decide +kernel
theorem dX5_currency_151 : decode cX5_currency 151 = .ok (.if_icmp .eq 9, 3) := by decide +kernel
theorem dX5_currency_154 : decode cX5_currency 154 = .ok (.iload_n 1, 1) := by decide +kernel
theorem dX5_currency_155 : decode cX5_currency 155 = .ok (.bipush 34, 2) := by decide +kernel
theorem dX5_currency_157 : decode cX5_currency 157 = .ok (.if_icmp .ne 7, 3) := by decide +kernel
theorem dX5_currency_160 : decode cX5_currency 160 = .ok (.iconst 1, 1) := by decide +kernel
theorem dX5_currency_161 : decode cX5_currency 161 = .ok (.goto 4, 3) := by decide +kernel
theorem dX5_currency_164 : decode cX5_currency 164 = .ok (.iconst 0, 1) := by decide +kernel
theorem dX5_currency_165 : decode cX5_currency 165 = .ok (.istore 4, 2) := by decide +kernel
theorem dX5_currency_167 : decode cX5_currency 167 = .ok (.iload_n 1, 1) := by decide +kernel
theorem dX5_currency_168 : decode cX5_currency 168 = .ok (.bipush 33, 2) := by decide +kernel
theorem dX5_currency_170 : decode cX5_currency 170 = .ok (.if_icmp .lt 30, 3) := by decide +kernel
theorem dX5_currency_173 : decode cX5_currency 173 = .ok (.iload_n 1, 1) := by decide +kernel
theorem dX5_currency_174 : decode cX5_currency 174 = .ok (.bipush 126, 2) := by decide +kernel
theorem dX5_currency_176 : decode cX5_currency 176 = .ok (.if_icmp .gt 24, 3) := by decide +kernel
theorem dX5_currency_179 : decode cX5_currency 179 = .ok (.iload_n 1, 1) := by decide +kernel
theorem dX5_currency_180 : decode cX5_currency 180 = .ok (.bipush 48, 2) := by decide +kernel
theorem dX5_currency_182 : decode cX5_currency 182 = .ok (.if_icmp .lt 9, 3) := by decide +kernel
theorem dX5_currency_185 : decode cX5_currency 185 = .ok (.iload_n 1, 1) := by decide +kernel
theorem dX5_currency_186 : decode cX5_currency 186 = .ok (.bipush 57, 2) := by decide +kernel
theorem dX5_currency_188 : decode cX5_currency 188 = .ok (.if_icmp .le 12, 3) := by decide +kernel
theorem dX5_currency_191 : decode cX5_currency 191 = .ok (.iload_n 3, 1) := by decide +kernel
theorem dX5_currency_192 : decode cX5_currency 192 = .ok (.ifCond .ne 8, 3) := by decide +kernel
theorem dX5_currency_195 : decode cX5_currency 195 = .ok (.iload 4, 2) := by decide +kernel
theorem dX5_currency_197 : decode cX5_currency 197 = .ok (.ifCond .eq 5, 3) := by decide +kernel
theorem dX5_currency_200 : decode cX5_currency 200 = .ok (.iconst (-1), 1) := by decide +kernel
theorem dX5_currency_201 : decode cX5_currency 201 = .ok (.ireturn, 1) := by decide +kernel
theorem dX5_currency_202 : decode cX5_currency 202 = .ok (.aload_n 0, 1) := by decide +kernel
theorem dX5_currency_203 : decode cX5_currency 203 = .ok (.getfield 13, 3) := by decide +kernel
theorem dX5_currency_206 : decode cX5_currency 206 = .ok (.istore 5, 2) := by decide +kernel
theorem dX5_currency_208 : decode cX5_currency 208 = .ok (.aload_n 0, 1) := by decide +kernel
theorem dX5_currency_209 : decode cX5_currency 209 = .ok (.iload_n 1, 1) := by decide +kernel
theorem dX5_currency_210 : decode cX5_currency 210 = .ok (.putfield 13, 3) := by decide +kernel
theorem dX5_currency_213 : decode cX5_currency 213 = .ok (.iload 5, 2) := by decide +kernel
theorem dX5_currency_215 : decode cX5_currency 215 = .ok (.ireturn, 1) := by decide +kernel
theorem dX5_at_0 : decode cX5_at 0 = .ok (.aload_n 0, 1) := by decide +kernel
theorem dX5_at_1 : decode cX5_at 1 = .ok (.iconst 0, 1) := by decide +kernel
theorem dX5_at_2 : decode cX5_at 2 = .ok (.putfield 69, 3) := by decide +kernel
theorem dX5_at_5 : decode cX5_at 5 = .ok (.aload_n 0, 1) := by decide +kernel
theorem dX5_at_6 : decode cX5_at 6 = .ok (.getfield 35, 3) := by decide +kernel
theorem dX5_at_9 : decode cX5_at 9 = .ok (.iconst (-1), 1) := by decide +kernel
theorem dX5_at_10 : decode cX5_at 10 = .ok (.if_icmp .eq 15, 3) := by decide +kernel
theorem dX5_at_13 : decode cX5_at 13 = .ok (.iload_n 1, 1) := by decide +kernel
theorem dX5_at_14 : decode cX5_at 14 = .ok (.ifCond .lt 11, 3) := by decide +kernel
theorem dX5_at_17 : decode cX5_at 17 = .ok (.iload_n 1, 1) := by decide +kernel
theorem dX5_at_18 : decode cX5_at 18 = .ok (.aload_n 0, 1) := by decide +kernel
theorem dX5_at_19 : decode cX5_at 19 = .ok (.getfield 133, 3) := by decide +kernel
theorem dX5_at_22 : decode cX5_at 22 = .ok (.if_icmp .lt 7, 3) := by decide +kernel
theorem dX5_at_25 : decode cX5_at 25 = .ok (.iconst (-1), 1) := by decide +kernel
theorem dX5_at_26 : decode cX5_at 26 = .ok (.goto 9, 3) := by decide +kernel
theorem dX5_at_29 : decode cX5_at 29 = .ok (.aload_n 0, 1) := by decide +kernel
theorem dX5_at_30 : decode cX5_at 30 = .ok (.getfield 32, 3) := by decide +kernel
theorem dX5_at_33 : decode cX5_at 33 = .ok (.iload_n 1, 1) := by decide +kernel
theorem dX5_at_34 : decode cX5_at 34 = .ok (.iaload, 1) := by decide +kernel
theorem dX5_at_35 : decode cX5_at 35 = .ok (.ireturn, 1) := by decide +kernel
set_option maxRecDepth 20000 in
theorem ggX5_bare_X5_isIdle : GoodIn wsX5_bare wsX5_isIdle := goodIn_r _ [4] (by decide +kernel) (by decide +kernel)
set_option maxRecDepth 20000 in
theorem gX5_bare_X5_isIdle : GoodIn wsX5_bare (va_wsS RX5 163 yX5_isIdle wsX5_isIdle) := goodIn_app (goodIn_of _ (by decide +kernel)) ggX5_bare_X5_isIdle
theorem dX5_bare_0 : decode cX5_bare 0 = .ok (.iconst 0, 1) := by decide +kernel
theorem dX5_bare_1 : decode cX5_bare 1 = .ok (.istore 5, 2) := by decide +kernel
theorem dX5_bare_3 : decode cX5_bare 3 = .ok (.iconst 0, 1) := by decide +kernel
theorem dX5_bare_4 : decode cX5_bare 4 = .ok (.istore 6, 2) := by decide +kernel
theorem dX5_bare_6 : decode cX5_bare 6 = .ok (.iload 6, 2) := by decide +kernel
theorem dX5_bare_8 : decode cX5_bare 8 = .ok (.iload_n 3, 1) := by decide +kernel
theorem dX5_bare_9 : decode cX5_bare 9 = .ok (.if_icmp .ge 60, 3) := by decide +kernel
theorem dX5_bare_12 : decode cX5_bare 12 = .ok (.aload_n 1, 1) := by decide +kernel
theorem dX5_bare_13 : decode cX5_bare 13 = .ok (.iload_n 2, 1) := by decide +kernel
theorem dX5_bare_14 : decode cX5_bare 14 = .ok (.iload 6, 2) := by decide +kernel
theorem dX5_bare_16 : decode cX5_bare 16 = .ok (.iadd, 1) := by decide +kernel
theorem dX5_bare_17 : decode cX5_bare 17 = .ok (.iaload, 1) := by decide +kernel
theorem dX5_bare_18 : decode cX5_bare 18 = .ok (.bipush 15, 2) := by decide +kernel
theorem dX5_bare_20 : decode cX5_bare 20 = .ok (.if_icmp .ne 18, 3) := by decide +kernel
theorem dX5_bare_23 : decode cX5_bare 23 = .ok (.aload_n 1, 1) := by decide +kernel
theorem dX5_bare_24 : decode cX5_bare 24 = .ok (.iload_n 2, 1) := by decide +kernel
theorem dX5_bare_25 : decode cX5_bare 25 = .ok (.iload 6, 2) := by decide +kernel
theorem dX5_bare_27 : decode cX5_bare 27 = .ok (.iload_n 3, 1) := by decide +kernel
theorem dX5_bare_28 : decode cX5_bare 28 = .ok (.invokestatic 163, 3) := by decide +kernel
theorem dX5_bare_31 : decode cX5_bare 31 = .ok (.ifCond .eq 7, 3) := by decide +kernel
theorem dX5_bare_34 : decode cX5_bare 34 = .ok (.iconst 1, 1) := by decide +kernel
theorem dX5_bare_35 : decode cX5_bare 35 = .ok (.goto 4, 3) := by decide +kernel
theorem dX5_bare_38 : decode cX5_bare 38 = .ok (.iconst 0, 1) := by decide +kernel
theorem dX5_bare_39 : decode cX5_bare 39 = .ok (.istore 7, 2) := by decide +kernel
theorem dX5_bare_41 : decode cX5_bare 41 = .ok (.iload 7, 2) := by decide +kernel
theorem dX5_bare_43 : decode cX5_bare 43 = .ok (.ifCond .eq 6, 3) := by decide +kernel
theorem dX5_bare_46 : decode cX5_bare 46 = .ok (.goto 17, 3) := by decide +kernel
theorem dX5_bare_49 : decode cX5_bare 49 = .ok (.aload 4, 2) := by decide +kernel
theorem dX5_bare_51 : decode cX5_bare 51 = .ok (.iload 5, 2) := by decide +kernel
theorem dX5_bare_53 : decode cX5_bare 53 = .ok (.aload_n 0, 1) := by decide +kernel
theorem dX5_bare_54 : decode cX5_bare 54 = .ok (.iload_n 2, 1) := by decide +kernel
theorem dX5_bare_55 : decode cX5_bare 55 = .ok (.iload 6, 2) := by decide +kernel
theorem dX5_bare_57 : decode cX5_bare 57 = .ok (.iadd, 1) := by decide +kernel
theorem dX5_bare_58 : decode cX5_bare 58 = .ok (.iaload, 1) := by decide +kernel
theorem dX5_bare_59 : decode cX5_bare 59 = .ok (.iastore, 1) := by decide +kernel
theorem dX5_bare_60 : decode cX5_bare 60 = .ok (.iinc 5 1, 3) := by decide +kernel
theorem dX5_bare_63 : decode cX5_bare 63 = .ok (.iinc 6 1, 3) := by decide +kernel
theorem dX5_bare_66 : decode cX5_bare 66 = .ok (.goto (-60), 3) := by decide +kernel
theorem dX5_bare_69 : decode cX5_bare 69 = .ok (.iload 5, 2) := by decide +kernel
theorem dX5_bare_71 : decode cX5_bare 71 = .ok (.ireturn, 1) := by decide +kernel
theorem dX5_isIdle_0 : decode cX5_isIdle 0 = .ok (.iconst 0, 1) := by decide +kernel
theorem dX5_isIdle_1 : decode cX5_isIdle 1 = .ok (.istore 4, 2) := by decide +kernel
theorem dX5_isIdle_3 : decode cX5_isIdle 3 = .ok (.iconst 0, 1) := by decide +kernel
theorem dX5_isIdle_4 : decode cX5_isIdle 4 = .ok (.istore 5, 2) := by decide +kernel
theorem dX5_isIdle_6 : decode cX5_isIdle 6 = .ok (.iconst 0, 1) := by decide +kernel
theorem dX5_isIdle_7 : decode cX5_isIdle 7 = .ok (.istore 6, 2) := by decide +kernel
theorem dX5_isIdle_9 : decode cX5_isIdle 9 = .ok (.iload 6, 2) := by decide +kernel
theorem dX5_isIdle_11 : decode cX5_isIdle 11 = .ok (.iload_n 3, 1) := by decide +kernel
theorem dX5_isIdle_12 : decode cX5_isIdle 12 = .ok (.if_icmp .ge 100, 3) := by decide +kernel
theorem dX5_isIdle_15 : decode cX5_isIdle 15 = .ok (.aload_n 0, 1) := by decide +kernel
theorem dX5_isIdle_16 : decode cX5_isIdle 16 = .ok (.iload_n 1, 1) := by decide +kernel
theorem dX5_isIdle_17 : decode cX5_isIdle 17 = .ok (.iload 6, 2) := by decide +kernel
theorem dX5_isIdle_19 : decode cX5_isIdle 19 = .ok (.iadd, 1) := by decide +kernel
theorem dX5_isIdle_20 : decode cX5_isIdle 20 = .ok (.iaload, 1) := by decide +kernel
theorem dX5_isIdle_21 : decode cX5_isIdle 21 = .ok (.istore 7, 2) := by decide +kernel
theorem dX5_isIdle_23 : decode cX5_isIdle 23 = .ok (.iload 4, 2) := by decide +kernel
theorem dX5_isIdle_25 : decode cX5_isIdle 25 = .ok (.ifCond .ne 36, 3) := by decide +kernel
theorem dX5_isIdle_28 : decode cX5_isIdle 28 = .ok (.iload 6, 2) := by decide +kernel
theorem dX5_isIdle_30 : decode cX5_isIdle 30 = .ok (.iload_n 2, 1) := by decide +kernel
theorem dX5_isIdle_31 : decode cX5_isIdle 31 = .ok (.if_icmp .le 34, 3) := by decide +kernel
theorem dX5_isIdle_34 : decode cX5_isIdle 34 = .ok (.iload 7, 2) := by decide +kernel
theorem dX5_isIdle_36 : decode cX5_isIdle 36 = .ok (.iconst 5, 1) := by decide +kernel
theorem dX5_isIdle_37 : decode cX5_isIdle 37 = .ok (.if_icmp .le 10, 3) := by decide +kernel
theorem dX5_isIdle_40 : decode cX5_isIdle 40 = .ok (.iload 7, 2) := by decide +kernel
theorem dX5_isIdle_42 : decode cX5_isIdle 42 = .ok (.bipush 13, 2) := by decide +kernel
theorem dX5_isIdle_44 : decode cX5_isIdle 44 = .ok (.if_icmp .lt 17, 3) := by decide +kernel
theorem dX5_isIdle_47 : decode cX5_isIdle 47 = .ok (.iload 7, 2) := by decide +kernel
theorem dX5_isIdle_49 : decode cX5_isIdle 49 = .ok (.bipush 16, 2) := by decide +kernel
theorem dX5_isIdle_51 : decode cX5_isIdle 51 = .ok (.if_icmp .eq 10, 3) := by decide +kernel
theorem dX5_isIdle_54 : decode cX5_isIdle 54 = .ok (.iload 7, 2) := by decide +kernel
theorem dX5_isIdle_56 : decode cX5_isIdle 56 = .ok (.bipush 17, 2) := by decide +kernel
theorem dX5_isIdle_58 : decode cX5_isIdle 58 = .ok (.if_icmp .ne 7, 3) := by decide +kernel
theorem dX5_isIdle_61 : decode cX5_isIdle 61 = .ok (.iconst 1, 1) := by decide +kernel
theorem dX5_isIdle_62 : decode cX5_isIdle 62 = .ok (.goto 4, 3) := by decide +kernel
theorem dX5_isIdle_65 : decode cX5_isIdle 65 = .ok (.iconst 0, 1) := by decide +kernel
theorem dX5_isIdle_66 : decode cX5_isIdle 66 = .ok (.istore 4, 2) := by decide +kernel
theorem dX5_isIdle_68 : decode cX5_isIdle 68 = .ok (.iload 5, 2) := by decide +kernel
theorem dX5_isIdle_70 : decode cX5_isIdle 70 = .ok (.ifCond .ne 29, 3) := by decide +kernel
theorem dX5_isIdle_73 : decode cX5_isIdle 73 = .ok (.iload 6, 2) := by decide +kernel
theorem dX5_isIdle_75 : decode cX5_isIdle 75 = .ok (.iload_n 2, 1) := by decide +kernel
theorem dX5_isIdle_76 : decode cX5_isIdle 76 = .ok (.if_icmp .ge 10, 3) := by decide +kernel
theorem dX5_isIdle_79 : decode cX5_isIdle 79 = .ok (.iload 7, 2) := by decide +kernel
theorem dX5_isIdle_81 : decode cX5_isIdle 81 = .ok (.bipush 17, 2) := by decide +kernel
theorem dX5_isIdle_83 : decode cX5_isIdle 83 = .ok (.if_icmp .eq 16, 3) := by decide +kernel
theorem dX5_isIdle_86 : decode cX5_isIdle 86 = .ok (.iload 6, 2) := by decide +kernel
theorem dX5_isIdle_88 : decode cX5_isIdle 88 = .ok (.iload_n 2, 1) := by decide +kernel
theorem dX5_isIdle_89 : decode cX5_isIdle 89 = .ok (.if_icmp .le 14, 3) := by decide +kernel
theorem dX5_isIdle_92 : decode cX5_isIdle 92 = .ok (.iload 7, 2) := by decide +kernel
theorem dX5_isIdle_94 : decode cX5_isIdle 94 = .ok (.bipush 16, 2) := by decide +kernel
theorem dX5_isIdle_96 : decode cX5_isIdle 96 = .ok (.if_icmp .ne 7, 3) := by decide +kernel
theorem dX5_isIdle_99 : decode cX5_isIdle 99 = .ok (.iconst 1, 1) := by decide +kernel
theorem dX5_isIdle_100 : decode cX5_isIdle 100 = .ok (.goto 4, 3) := by decide +kernel
theorem dX5_isIdle_103 : decode cX5_isIdle 103 = .ok (.iconst 0, 1) := by decide +kernel
theorem dX5_isIdle_104 : decode cX5_isIdle 104 = .ok (.istore 5, 2) := by decide +kernel
theorem dX5_isIdle_106 : decode cX5_isIdle 106 = .ok (.iinc 6 1, 3) := by decide +kernel
theorem dX5_isIdle_109 : decode cX5_isIdle 109 = .ok (.goto (-100), 3) := by decide +kernel
theorem dX5_isIdle_112 : decode cX5_isIdle 112 = .ok (.iload 4, 2) := by decide +kernel
theorem dX5_isIdle_114 : decode cX5_isIdle 114 = .ok (.ifCond .eq 8, 3) := by decide +kernel
theorem dX5_isIdle_117 : decode cX5_isIdle 117 = .ok (.iload 5, 2) := by decide +kernel
theorem dX5_isIdle_119 : decode cX5_isIdle 119 = .ok (.ifCond .eq 7, 3) := by decide +kernel
theorem dX5_isIdle_122 : decode cX5_isIdle 122 = .ok (.iconst 1, 1) := by decide +kernel
theorem dX5_isIdle_123 : decode cX5_isIdle 123 = .ok (.goto 4, 3) := by decide +kernel
theorem dX5_isIdle_126 : decode cX5_isIdle 126 = .ok (.iconst 0, 1) := by decide +kernel
theorem dX5_isIdle_127 : decode cX5_isIdle 127 = .ok (.ireturn, 1) := by decide +kernel
set_option maxRecDepth 20000 in
theorem ggX5_same_X5_bare : GoodIn wsX5_same wsX5_bare := goodIn_r _ [14, 15, 16, 13, 17] (by decide +kernel) (by decide +kernel)
set_option maxRecDepth 20000 in
theorem gX5_same_X5_bare : GoodIn wsX5_same (va_wsS RX5 167 yX5_bare wsX5_bare) := goodIn_app (goodIn_of _ (by decide +kernel)) ggX5_same_X5_bare
theorem dX5_same_0 : decode cX5_same 0 = .ok (.aload_n 0, 1) := by decide +kernel
theorem dX5_same_1 : decode cX5_same 1 = .ok (.iconst 0, 1) := by decide +kernel
theorem dX5_same_2 : decode cX5_same 2 = .ok (.putfield 69, 3) := by decide +kernel
theorem dX5_same_5 : decode cX5_same 5 = .ok (.aload_n 0, 1) := by decide +kernel
theorem dX5_same_6 : decode cX5_same 6 = .ok (.getfield 35, 3) := by decide +kernel
theorem dX5_same_9 : decode cX5_same 9 = .ok (.iconst (-1), 1) := by decide +kernel
theorem dX5_same_10 : decode cX5_same 10 = .ok (.if_icmp .eq 15, 3) := by decide +kernel
theorem dX5_same_13 : decode cX5_same 13 = .ok (.iload_n 1, 1) := by decide +kernel
theorem dX5_same_14 : decode cX5_same 14 = .ok (.ifCond .lt 11, 3) := by decide +kernel
theorem dX5_same_17 : decode cX5_same 17 = .ok (.iload_n 1, 1) := by decide +kernel
theorem dX5_same_18 : decode cX5_same 18 = .ok (.aload_n 0, 1) := by decide +kernel
theorem dX5_same_19 : decode cX5_same 19 = .ok (.getfield 136, 3) := by decide +kernel
theorem dX5_same_22 : decode cX5_same 22 = .ok (.if_icmp .lt 5, 3) := by decide +kernel
theorem dX5_same_25 : decode cX5_same 25 = .ok (.iconst 0, 1) := by decide +kernel
theorem dX5_same_26 : decode cX5_same 26 = .ok (.ireturn, 1) := by decide +kernel
theorem dX5_same_27 : decode cX5_same 27 = .ok (.aload_n 0, 1) := by decide +kernel
theorem dX5_same_28 : decode cX5_same 28 = .ok (.getfield 26, 3) := by decide +kernel
theorem dX5_same_31 : decode cX5_same 31 = .ok (.aload_n 0, 1) := by decide +kernel
theorem dX5_same_32 : decode cX5_same 32 = .ok (.getfield 29, 3) := by decide +kernel
theorem dX5_same_35 : decode cX5_same 35 = .ok (.iconst 0, 1) := by decide +kernel
theorem dX5_same_36 : decode cX5_same 36 = .ok (.aload_n 0, 1) := by decide +kernel
theorem dX5_same_37 : decode cX5_same 37 = .ok (.getfield 35, 3) := by decide +kernel
theorem dX5_same_40 : decode cX5_same 40 = .ok (.aload_n 0, 1) := by decide +kernel
theorem dX5_same_41 : decode cX5_same 41 = .ok (.getfield 63, 3) := by decide +kernel
theorem dX5_same_44 : decode cX5_same 44 = .ok (.invokestatic 167, 3) := by decide +kernel
theorem dX5_same_47 : decode cX5_same 47 = .ok (.istore_n 2, 1) := by decide +kernel
theorem dX5_same_48 : decode cX5_same 48 = .ok (.aload_n 0, 1) := by decide +kernel
theorem dX5_same_49 : decode cX5_same 49 = .ok (.getfield 39, 3) := by decide +kernel
theorem dX5_same_52 : decode cX5_same 52 = .ok (.aload_n 0, 1) := by decide +kernel
theorem dX5_same_53 : decode cX5_same 53 = .ok (.getfield 42, 3) := by decide +kernel
theorem dX5_same_56 : decode cX5_same 56 = .ok (.sipush 10200, 3) := by decide +kernel
theorem dX5_same_59 : decode cX5_same 59 = .ok (.iload_n 1, 1) := by decide +kernel
theorem dX5_same_60 : decode cX5_same 60 = .ok (.imul, 1) := by decide +kernel
theorem dX5_same_61 : decode cX5_same 61 = .ok (.aload_n 0, 1) := by decide +kernel
theorem dX5_same_62 : decode cX5_same 62 = .ok (.getfield 45, 3) := by decide +kernel
theorem dX5_same_65 : decode cX5_same 65 = .ok (.iload_n 1, 1) := by decide +kernel
theorem dX5_same_66 : decode cX5_same 66 = .ok (.iaload, 1) := by decide +kernel
theorem dX5_same_67 : decode cX5_same 67 = .ok (.aload_n 0, 1) := by decide +kernel
theorem dX5_same_68 : decode cX5_same 68 = .ok (.getfield 66, 3) := by decide +kernel
theorem dX5_same_71 : decode cX5_same 71 = .ok (.invokestatic 167, 3) := by decide +kernel
theorem dX5_same_74 : decode cX5_same 74 = .ok (.iload_n 2, 1) := by decide +kernel
theorem dX5_same_75 : decode cX5_same 75 = .ok (.if_icmp .eq 5, 3) := by decide +kernel
theorem dX5_same_78 : decode cX5_same 78 = .ok (.iconst 0, 1) := by decide +kernel
theorem dX5_same_79 : decode cX5_same 79 = .ok (.ireturn, 1) := by decide +kernel
theorem dX5_same_80 : decode cX5_same 80 = .ok (.iconst 1, 1) := by decide +kernel
theorem dX5_same_81 : decode cX5_same 81 = .ok (.istore_n 3, 1) := by decide +kernel
theorem dX5_same_82 : decode cX5_same 82 = .ok (.iconst 0, 1) := by decide +kernel
theorem dX5_same_83 : decode cX5_same 83 = .ok (.istore 4, 2) := by decide +kernel
theorem dX5_same_85 : decode cX5_same 85 = .ok (.iload 4, 2) := by decide +kernel
theorem dX5_same_87 : decode cX5_same 87 = .ok (.iload_n 2, 1) := by decide +kernel
theorem dX5_same_88 : decode cX5_same 88 = .ok (.if_icmp .ge 36, 3) := by decide +kernel
theorem dX5_same_91 : decode cX5_same 91 = .ok (.iload_n 3, 1) := by decide +kernel
theorem dX5_same_92 : decode cX5_same 92 = .ok (.ifCond .eq 24, 3) := by decide +kernel
theorem dX5_same_95 : decode cX5_same 95 = .ok (.aload_n 0, 1) := by decide +kernel
theorem dX5_same_96 : decode cX5_same 96 = .ok (.getfield 63, 3) := by decide +kernel
theorem dX5_same_99 : decode cX5_same 99 = .ok (.iload 4, 2) := by decide +kernel
theorem dX5_same_101 : decode cX5_same 101 = .ok (.iaload, 1) := by decide +kernel
theorem dX5_same_102 : decode cX5_same 102 = .ok (.aload_n 0, 1) := by decide +kernel
theorem dX5_same_103 : decode cX5_same 103 = .ok (.getfield 66, 3) := by decide +kernel
theorem dX5_same_106 : decode cX5_same 106 = .ok (.iload 4, 2) := by decide +kernel
theorem dX5_same_108 : decode cX5_same 108 = .ok (.iaload, 1) := by decide +kernel
theorem dX5_same_109 : decode cX5_same 109 = .ok (.if_icmp .ne 7, 3) := by decide +kernel
theorem dX5_same_112 : decode cX5_same 112 = .ok (.iconst 1, 1) := by decide +kernel
theorem dX5_same_113 : decode cX5_same 113 = .ok (.goto 4, 3) := by decide +kernel
theorem dX5_same_116 : decode cX5_same 116 = .ok (.iconst 0, 1) := by decide +kernel
theorem dX5_same_117 : decode cX5_same 117 = .ok (.istore_n 3, 1) := by decide +kernel
theorem dX5_same_118 : decode cX5_same 118 = .ok (.iinc 4 1, 3) := by decide +kernel
theorem dX5_same_121 : decode cX5_same 121 = .ok (.goto (-36), 3) := by decide +kernel
theorem dX5_same_124 : decode cX5_same 124 = .ok (.iload_n 3, 1) := by decide +kernel
theorem dX5_same_125 : decode cX5_same 125 = .ok (.ireturn, 1) := by decide +kernel
set_option maxRecDepth 20000 in
theorem ggX5_insertion_X5_ofSign : GoodIn wsX5_insertion wsX5_ofSign := goodIn_r _ [7, 2, 8, 14, 15, 16, 17, 18, 19, 20, 21, 22, 23, 24, 25, 26, 27, 28, 29, 30, 31, 32, 33, 34, 35, 36, 37] (by decide +kernel) (by decide +kernel)
set_option maxRecDepth 20000 in
theorem gX5_insertion_X5_ofSign : GoodIn wsX5_insertion (wsV RX5 145 RX5 yX5_ofSign wsX5_ofSign) := goodIn_app (goodIn_of _ (by decide +kernel)) ggX5_insertion_X5_ofSign
set_option maxRecDepth 20000 in
theorem ggX5_insertion_X5_ofKind : GoodIn wsX5_insertion wsX5_ofKind := goodIn_r _ [12, 2, 13, 14, 15, 16, 17, 18, 19, 20, 21, 22, 23, 24, 25, 26, 27, 28, 29, 30, 31, 32, 33, 34, 35, 36, 37] (by decide +kernel) (by decide +kernel)
set_option maxRecDepth 20000 in
theorem gX5_insertion_X5_ofKind : GoodIn wsX5_insertion (wsV RX5 142 RX5 yX5_ofKind wsX5_ofKind) := goodIn_app (goodIn_of _ (by decide +kernel)) ggX5_insertion_X5_ofKind
theorem dX5_insertion_0 : decode cX5_insertion 0 = .ok (.aload_n 0, 1) := by decide +kernel
theorem dX5_insertion_1 : decode cX5_insertion 1 = .ok (.iconst 0, 1) := by decide +kernel
theorem dX5_insertion_2 : decode cX5_insertion 2 = .ok (.putfield 69, 3) := by decide +kernel
theorem dX5_insertion_5 : decode cX5_insertion 5 = .ok (.aload_n 0, 1) := by decide +kernel
theorem dX5_insertion_6 : decode cX5_insertion 6 = .ok (.getfield 35, 3) := by decide +kernel
theorem dX5_insertion_9 : decode cX5_insertion 9 = .ok (.iconst (-1), 1) := by decide +kernel
theorem dX5_insertion_10 : decode cX5_insertion 10 = .ok (.if_icmp .eq 13, 3) := by decide +kernel
theorem dX5_insertion_13 : decode cX5_insertion 13 = .ok (.iload_n 1, 1) := by decide +kernel
theorem dX5_insertion_14 : decode cX5_insertion 14 = .ok (.ifCond .lt 9, 3) := by decide +kernel
theorem dX5_insertion_17 : decode cX5_insertion 17 = .ok (.iload_n 1, 1) := by decide +kernel
theorem dX5_insertion_18 : decode cX5_insertion 18 = .ok (.bipush 6, 2) := by decide +kernel
theorem dX5_insertion_20 : decode cX5_insertion 20 = .ok (.if_icmp .le 5, 3) := by decide +kernel
theorem dX5_insertion_23 : decode cX5_insertion 23 = .ok (.iconst (-1), 1) := by decide +kernel
theorem dX5_insertion_24 : decode cX5_insertion 24 = .ok (.ireturn, 1) := by decide +kernel
theorem dX5_insertion_25 : decode cX5_insertion 25 = .ok (.iload_n 1, 1) := by decide +kernel
theorem dX5_insertion_26 : decode cX5_insertion 26 = .ok (.tableswitch 83 0 5 #[38, 45, 52, 59, 65, 71], 38) := by decide +kernel
theorem dX5_insertion_64 : decode cX5_insertion 64 = .ok (.aload_n 0, 1) := by decide +kernel
theorem dX5_insertion_65 : decode cX5_insertion 65 = .ok (.bipush 66, 2) := by decide +kernel
theorem dX5_insertion_67 : decode cX5_insertion 67 = .ok (.invokevirtual 145, 3) := by decide +kernel
theorem dX5_insertion_70 : decode cX5_insertion 70 = .ok (.ireturn, 1) := by decide +kernel
theorem dX5_insertion_71 : decode cX5_insertion 71 = .ok (.aload_n 0, 1) := by decide +kernel
theorem dX5_insertion_72 : decode cX5_insertion 72 = .ok (.bipush 48, 2) := by decide +kernel
theorem dX5_insertion_74 : decode cX5_insertion 74 = .ok (.invokevirtual 145, 3) := by decide +kernel
theorem dX5_insertion_77 : decode cX5_insertion 77 = .ok (.ireturn, 1) := by decide +kernel
theorem dX5_insertion_78 : decode cX5_insertion 78 = .ok (.aload_n 0, 1) := by decide +kernel
theorem dX5_insertion_79 : decode cX5_insertion 79 = .ok (.bipush 47, 2) := by decide +kernel
theorem dX5_insertion_81 : decode cX5_insertion 81 = .ok (.invokevirtual 145, 3) := by decide +kernel
theorem dX5_insertion_84 : decode cX5_insertion 84 = .ok (.ireturn, 1) := by decide +kernel
theorem dX5_insertion_85 : decode cX5_insertion 85 = .ok (.aload_n 0, 1) := by decide +kernel
theorem dX5_insertion_86 : decode cX5_insertion 86 = .ok (.iconst 1, 1) := by decide +kernel
theorem dX5_insertion_87 : decode cX5_insertion 87 = .ok (.invokevirtual 142, 3) := by decide +kernel
theorem dX5_insertion_90 : decode cX5_insertion 90 = .ok (.ireturn, 1) := by decide +kernel
theorem dX5_insertion_91 : decode cX5_insertion 91 = .ok (.aload_n 0, 1) := by decide +kernel
theorem dX5_insertion_92 : decode cX5_insertion 92 = .ok (.iconst 2, 1) := by decide +kernel
theorem dX5_insertion_93 : decode cX5_insertion 93 = .ok (.invokevirtual 142, 3) := by decide +kernel
theorem dX5_insertion_96 : decode cX5_insertion 96 = .ok (.ireturn, 1) := by decide +kernel
theorem dX5_insertion_97 : decode cX5_insertion 97 = .ok (.aload_n 0, 1) := by decide +kernel
theorem dX5_insertion_98 : decode cX5_insertion 98 = .ok (.iconst 3, 1) := by decide +kernel
theorem dX5_insertion_99 : decode cX5_insertion 99 = .ok (.invokevirtual 142, 3) := by decide +kernel
theorem dX5_insertion_102 : decode cX5_insertion 102 = .ok (.aload_n 0, 1) := by decide +kernel
theorem dX5_insertion_103 : decode cX5_insertion 103 = .ok (.iconst 4, 1) := by decide +kernel
theorem dX5_insertion_104 : decode cX5_insertion 104 = .ok (.invokevirtual 142, 3) := by decide +kernel
theorem dX5_insertion_107 : decode cX5_insertion 107 = .ok (.iadd, 1) := by decide +kernel
theorem dX5_insertion_108 : decode cX5_insertion 108 = .ok (.ireturn, 1) := by decide +kernel
theorem dX5_insertion_109 : decode cX5_insertion 109 = .ok (.aload_n 0, 1) := by decide +kernel
theorem dX5_insertion_110 : decode cX5_insertion 110 = .ok (.iconst 5, 1) := by decide +kernel
theorem dX5_insertion_111 : decode cX5_insertion 111 = .ok (.invokevirtual 142, 3) := by decide +kernel
theorem dX5_insertion_114 : decode cX5_insertion 114 = .ok (.ireturn, 1) := by decide +kernel
end
section
/-! my own small kit: booleans as numbers, the environment that every contract carries, readers' calls and ends -/
def bI (b : Bool) : Int32 := if b = true then 1 else 0
theorem bI_0 {b : Bool} (h : bI b = 0) : b = false := by cases b with | true => exact absurd h (by decide) | false => rfl
theorem bI_n0 {b : Bool} (h : ¬ bI b = 0) : ¬ b = false := fun e => h (by rw [e]; rfl)
theorem bI_nar (b : Bool) : narrow .boolean (.int (bI b)) = .int (bI b) := by cases b <;> rfl
/-- the words on private members of nest mates -/
def nwF : List (String × Nat × String × String × String) := [("PictureRows", 103, "PictureRows$Picture", "effect", "LPictureRows$Effect;"), ("PictureRows", 58, "PictureRows$Picture", "signCount", "I"), ("PictureRows", 61, "PictureRows$Picture", "category", "I"), ("PictureRows", 68, "PictureRows$Picture", "digitsAhead", "I"), ("PictureRows", 71, "PictureRows$Picture", "digitsBehind", "I"), ("PictureRows", 74, "PictureRows$Picture", "scale", "I"), ("PictureRows$Picture", 28, "PictureRows$Runs", "signs", "[I"), ("PictureRows$Picture", 41, "PictureRows$Runs", "times", "[I"), ("PictureRows$Picture", 45, "PictureRows$Runs", "kinds", "[I"), ("PictureRows$Picture", 9, "PictureRows$Runs", "size", "I"), ("PictureRows$Runs", 31, "PictureRows$Text", "length", "I"), ("PictureRows$Runs", 79, "PictureRows", "MAY_COME_BEHIND", "[I"), ("PictureRows", 133, "PictureRows$Text", "length", "I")]
def nwM : List (String × Nat × MethodName) := [("PictureRows", 11, yX3_init), ("PictureRows", 18, yX2_init), ("PictureRows$Picture", 74, yX4_holds), ("PictureRows$Picture", 78, yX2_countOf), ("PictureRows$Picture", 98, yX4_widthOf), ("PictureRows$Runs", 40, yX4_widthOf), ("PictureRows$Runs", 67, yX4_holds), ("PictureRows$Runs", 75, yX4_isKind), ("PictureRows$Runs", 85, yX4_signsCounted), ("PictureRows$Text", 23, yX4_greatOf)]
def NW (U : State) : Prop := (∀ q ∈ nwF, va_Nw (.fieldLinkNest q.1 q.2.1 q.2.2.1 q.2.2.2.1 q.2.2.2.2 "PictureRows") U) ∧ ∀ q ∈ nwM, va_Nw (.methodLinkNest q.1 q.2.1 q.2.2 "PictureRows") U
theorem NW.warm {s U : State} (hW : s.WarmedH U.vm) (h : NW s) : NW U := ⟨fun q hq => va_Nw.warmF hW (h.1 q hq), fun q hq => va_Nw.warmM hW (h.2 q hq)⟩
theorem NW.same {u U : State} (hv : u.vm = U.vm) (h : NW u) : NW U := ⟨fun q hq => va_Nw.same rfl hv (h.1 q hq), fun q hq => va_Nw.same rfl hv (h.2 q hq)⟩
/-- the table of kinds, and the three texts -/
def tbL : List Int32 := [442327, 171991, 6803, 236775, 0, 234455, 168151, 147, 168711, 515, 171031, 2067, 176151, 12289, 233472, 72339, 72339, 163856, 262145]
def evT0 : String := "AX9Z*B0/,.+-SVPN"
def evT1 : String := "ABCDENPRSVXZ0123456789*+-,./;()='\""
def evT2 : String := "no such kind"
def evByt : List (List Int32) := [[65, 88, 57, 90, 42, 66, 48, 47, 44, 46, 43, 45, 83, 86, 80, 78], [65, 66, 67, 68, 69, 78, 80, 82, 83, 86, 88, 90, 48, 49, 50, 51, 52, 53, 54, 55, 56, 57, 42, 43, 45, 44, 46, 47, 59, 40, 41, 61, 39, 34], [110, 111, 32, 115, 117, 99, 104, 32, 107, 105, 110, 100]]
def evLen : List Nat := [16, 34, 12]
def EV (A : Nat → Prop) (U : State) (H : Heap) : Prop := NW U ∧ (∃ t : Nat, va_Z "PictureRows" "MAY_COME_BEHIND" "[I" (.ref t) A U H ∧ va_T .int t 19 (fun j => .int (tbL.getD j 0)) A U H) ∧ va_Z "java/lang/String" "COMPACT_STRINGS" "Z" (.int 1) A U H ∧ ∃ adK adV : Nat → Nat, vk_S 3 evLen evByt adK adV A U H ∧ vk_R "PictureRows$Text" 26 evT0 (adK 0) U ∧ vk_R "PictureRows" 136 evT1 (adK 1) U ∧ vk_R "PictureRows" 83 evT2 (adK 2) U
theorem EV.warm {A : Nat → Prop} {s U : State} {H : Heap} (hW : s.WarmedH U.vm) (h : EV A s H) : EV A U H := by
  obtain ⟨h1, ⟨t, h2, h3⟩, h4, adK, adV, h5, h6, h7, h8⟩ := h
  exact ⟨h1.warm hW, ⟨t, h2.moved hW.alike, h3.moved hW.alike⟩, h4.moved hW.alike, adK, adV, h5.moved hW.alike, h6.warm hW, h7.warm hW, h8.warm hW⟩
theorem EV.calls {A : Nat → Prop} {U : State} {H : Heap} {g : JFrame} {mk : MethodId} {a : Array Value} (h : EV A U H) : EV A (U.calling g mk a) H := by
  obtain ⟨h1, ⟨t, h2, h3⟩, h4, adK, adV, h5, h6, h7, h8⟩ := h
  exact ⟨h1.same rfl, ⟨t, h2.moved (Vm.Alike.refl U.vm), h3.moved (Vm.Alike.refl U.vm)⟩, h4.moved (Vm.Alike.refl U.vm), adK, adV, h5.moved (Vm.Alike.refl U.vm), h6.same rfl, h7.same rfl, h8.same rfl⟩
theorem EV.kept {A : Nat → Prop} {U : State} {H H1 : Heap} (h : EV A U H) (hq : ∀ a : Nat, a < H.size → ¬ A a → H1[a]? = H[a]?) : EV A U H1 := by
  obtain ⟨h1, ⟨t, h2, h3⟩, h4, adK, adV, h5, h6⟩ := h
  exact ⟨h1, ⟨t, h2.kept hq, h3.kept hq⟩, h4.kept hq, adK, adV, h5.kept hq, h6⟩
theorem EV.narrow {A B : Nat → Prop} {U : State} {H : Heap} (h : EV A U H) (hAB : ∀ q, B q → A q) : EV B U H := by
  obtain ⟨h1, ⟨t, h2, h3⟩, h4, adK, adV, h5, h6⟩ := h
  exact ⟨h1, ⟨t, h2.narrow hAB, h3.narrow hAB⟩, h4.narrow hAB, adK, adV, h5.narrow hAB, h6⟩
abbrev nA : Nat → Prop := fun _ => False
/-- a reader's start: the environment, the cells that it reads -/
def rd_P (D : va_G) (cl : List vw_C) (wc : va_W) (tc : List (ClassId × FieldType)) : State → Prop := fun U => EV nA U U.heap ∧ va_P D cl wc U.heap ∧ va_K D cl tc U
theorem rd_blind {av : List Value} {D : va_G} {cl : List vw_C} {wc : va_W} {tc : List (ClassId × FieldType)} : FrameBlind (va_Pc av (rd_P D cl wc tc)) := fun a U g mk q => by
  obtain ⟨q0, qE, qP, qK⟩ := q
  exact ⟨q0, qE.calls, qP, va_K.moved (u := U) (U := U.calling g mk a) (Vm.Alike.refl U.vm) qK⟩
section RD
variable {p : Program} {l : Launch} {e : Env} {R : Room} {s : State} {m : MethodId} {args : Array Value} {below : List Frame} {meth : Method} {c : Code} {H : Heap} {locs : List Loc} {cells slots : Nat} {Q : State → Prop}
variable {pc : Nat} {ls : Array Slot} {rest st0 : List Value} {cc bytes : ByteArray} {nL maxL index n : Nat} {ret : Option FieldType} {wsY : List Cond} {rm : Room} {own C host : String} {y : MethodName} {b : Nat} {As : List Value} {Ts : List Cond} {D : va_G} {cl : List vw_C} {wc : va_W} {tc : List (ClassId × FieldType)}
theorem rd_callV {post : Int32 → Prop} (S : CallFix p m c cc nL s args Ts own) (hE : EV nA s H) (hM : Met l y wsY rm (va_Pc (.ref b :: As) (rd_P D cl wc tc)) (vp_Si post) 0 0 (fun _ => False)) (cw : CallW R s args own C index y bytes maxL ret wsY rm 0 0 n) (hPc : va_P D cl wc H) (hKc : va_K D cl tc s) (hrv : ∃ cell : Cell, H[b]? = some cell ∧ cell.vm.isStatics = false ∧ s.vm.findClass C = some cell.cls) (hn : As.length = n) (hsz : ls.size = nL) (hst : st0 = As.reverse ++ .ref b :: rest) (hW : (rest.map fun v => v.category).sum ≤ 8) (hdg : decode cc pc = .ok (.invokevirtual index, 3)) (hf : cells ≤ R.cells ∧ slots ≤ R.slots)
    (kk : ∀ r : Int32, post r → W p l e R s m args below meth c H locs cells slots Q (F0 m (pc + 3) ls (.int r :: rest))) : W p l e R s m args below meth c H locs cells slots Q (F0 m pc ls st0) :=
  vp_callSi (W.runV (g := F0 m pc ls st0) S hM cw ⟨rd_blind, hrv, fun U hU hW => ⟨rfl, by rw [hU]; exact hE.warm hW, by rw [hU]; exact hPc, va_K.moved hW.alike hKc⟩⟩ rfl hn hsz hst (lv_room hW) hdg hf) kk
theorem rd_callS {post : Int32 → Prop} (S : CallFix p m c cc nL s args Ts own) (hE : EV nA s H) (hM : Met l y wsY rm (va_Pc As (rd_P D cl wc tc)) (vp_Si post) 0 0 (fun _ => False)) (cw : CallB R s args own index y bytes maxL ret wsY rm 0 0 n ∧ (Cond.static y).before args s = true) (hPc : va_P D cl wc H) (hKc : va_K D cl tc s) (hn : As.length = n) (hsz : ls.size = nL) (hst : st0 = As.reverse ++ rest) (hW : (rest.map fun v => v.category).sum ≤ 8) (hdg : decode cc pc = .ok (.invokestatic index, 3)) (hf : cells ≤ R.cells ∧ slots ≤ R.slots)
    (kk : ∀ r : Int32, post r → W p l e R s m args below meth c H locs cells slots Q (F0 m (pc + 3) ls (.int r :: rest))) : W p l e R s m args below meth c H locs cells slots Q (F0 m pc ls st0) :=
  vp_callSi (W.runS (g := F0 m pc ls st0) S hM cw ⟨rd_blind, fun U hU hW => ⟨rfl, by rw [hU]; exact hE.warm hW, by rw [hU]; exact hPc, va_K.moved hW.alike hKc⟩⟩ rfl hn hsz hst (lv_room hW) hdg hf) kk
theorem rd_callVN {post : Int32 → Prop} (S : CallFix p m c cc nL s args Ts own) (hE : EV nA s H) (hM : Met l y wsY rm (va_Pc (.ref b :: As) (rd_P D cl wc tc)) (vp_Si post) 0 0 (fun _ => False)) (cw : va_CN R s args own index y host bytes maxL ret wsY rm 0 0 n ∧ (Cond.instanceMethod y).before args s = true ∧ (Cond.selects C y y).before args s = true) (hPc : va_P D cl wc H) (hKc : va_K D cl tc s) (hrv : ∃ cell : Cell, H[b]? = some cell ∧ cell.vm.isStatics = false ∧ s.vm.findClass C = some cell.cls) (hn : As.length = n) (hsz : ls.size = nL) (hst : st0 = As.reverse ++ .ref b :: rest) (hW : (rest.map fun v => v.category).sum ≤ 8) (hdg : decode cc pc = .ok (.invokevirtual index, 3)) (hf : cells ≤ R.cells ∧ slots ≤ R.slots)
    (kk : ∀ r : Int32, post r → W p l e R s m args below meth c H locs cells slots Q (F0 m (pc + 3) ls (.int r :: rest))) : W p l e R s m args below meth c H locs cells slots Q (F0 m pc ls st0) :=
  vp_callSi (va_Run.run (va_runVN (g := F0 m pc ls st0) S hM cw ⟨rd_blind, hrv, fun U hU hW => ⟨rfl, by rw [hU]; exact hE.warm hW, by rw [hU]; exact hPc, va_K.moved hW.alike hKc⟩⟩ rfl hn hsz hst (lv_room hW) hdg hf)) kk
theorem rd_callSN {post : Int32 → Prop} (S : CallFix p m c cc nL s args Ts own) (hE : EV nA s H) (hM : Met l y wsY rm (va_Pc As (rd_P D cl wc tc)) (vp_Si post) 0 0 (fun _ => False)) (cw : va_CN R s args own index y host bytes maxL ret wsY rm 0 0 n ∧ (Cond.static y).before args s = true ∧ True) (hPc : va_P D cl wc H) (hKc : va_K D cl tc s) (hn : As.length = n) (hsz : ls.size = nL) (hst : st0 = As.reverse ++ rest) (hW : (rest.map fun v => v.category).sum ≤ 8) (hdg : decode cc pc = .ok (.invokestatic index, 3)) (hf : cells ≤ R.cells ∧ slots ≤ R.slots)
    (kk : ∀ r : Int32, post r → W p l e R s m args below meth c H locs cells slots Q (F0 m (pc + 3) ls (.int r :: rest))) : W p l e R s m args below meth c H locs cells slots Q (F0 m pc ls st0) :=
  vp_callSi (va_Run.run (va_runSN (g := F0 m pc ls st0) S hM cw ⟨rd_blind, fun U hU hW => ⟨rfl, by rw [hU]; exact hE.warm hW, by rw [hU]; exact hPc, va_K.moved hW.alike hKc⟩⟩ rfl hn hsz hst (lv_room hW) hdg hf)) kk
/-- a reader's ends -/
theorem rd_iret {post : Int32 → Prop} {v : Int32} (hx : p.tables.exec = Jvm.exec) (hb : c.code = cc) (hr : meth.sig.returnType = some .int) (hlocks : meth.locks = false) (hpost : post v) (hdg : decode cc pc = .ok (.ireturn, 1)) : W p l e R s m args below meth c s.heap [] 0 0 (MQ below (vp_Si post) args s 0 0 (fun _ => False)) (F0 m pc ls [.int v]) :=
  W.iret (v := v) hx hb hr (fun t ht hW => ⟨v, rfl, hpost, ht⟩) (fun q h => by cases h) hdg hlocks
theorem rd_zret {post : Int32 → Prop} {v : Int32} (hx : p.tables.exec = Jvm.exec) (hb : c.code = cc) (hr : meth.sig.returnType = some .boolean) (hlocks : meth.locks = false) (hnar : narrow .boolean (.int v) = .int v) (hpost : post v) (hdg : decode cc pc = .ok (.ireturn, 1)) : W p l e R s m args below meth c s.heap [] 0 0 (MQ below (vp_Si post) args s 0 0 (fun _ => False)) (F0 m pc ls [.int v]) :=
  W.zret (v := v) hx hb hr hnar (fun t ht hW => ⟨v, rfl, hpost, ht⟩) (fun q h => by cases h) hdg hlocks
/-- an array's place that is a number -/
theorem rd_iald {a : Nat} {tys : List (ClassId × FieldType)} {ws : va_W} (hx : p.tables.exec = Jvm.exec) (hb : c.code = cc) (hK : va_K D cl tys s) (hP : va_P D cl ws H) (q0 t0 : Nat) {cA : ClassId} {k : Nat} {f : Nat → Int32} (ha : ws[q0]? = some (a, .inl (cA, k, .inl f))) (ht : tys[t0]? = some (cA, .int)) (j : Nat) (hj : j < k) (hk : k < 2 ^ 31) (hdg : decode cc pc = .ok (.iaload, 1))
    (kk : W p l e R s m args below meth c H locs cells slots Q (F0 m (pc + 1) ls (.int (f j) :: rest))) : W p l e R s m args below meth c H locs cells slots Q (F0 m pc ls (.int (nI j) :: .ref a :: rest)) :=
  va_iald hx hb hK hP q0 t0 ha ht (vp_in_nI hj hk) hdg (by rw [nI_clamp (by omega)]; exact kk)
theorem rd_iadd (hx : p.tables.exec = Jvm.exec) (hb : c.code = cc) (i j : Nat) (hdg : decode cc pc = .ok (.iadd, 1))
    (kk : W p l e R s m args below meth c H locs cells slots Q (F0 m (pc + 1) ls (.int (nI (i + j)) :: rest))) : W p l e R s m args below meth c H locs cells slots Q (F0 m pc ls (.int (nI j) :: .int (nI i) :: rest)) :=
  lv_iadd hx hb hdg (by rw [nI_add]; exact kk)
theorem rd_isub (hx : p.tables.exec = Jvm.exec) (hb : c.code = cc) (i j : Nat) (h : j ≤ i) (hdg : decode cc pc = .ok (.isub, 1))
    (kk : W p l e R s m args below meth c H locs cells slots Q (F0 m (pc + 1) ls (.int (nI (i - j)) :: rest))) : W p l e R s m args below meth c H locs cells slots Q (F0 m pc ls (.int (nI j) :: .int (nI i) :: rest)) :=
  lv_isub hx hb hdg (by rw [pk_sub h]; exact kk)
end RD
theorem rg_in {x N : Int32} {n : Nat} (hN : N.toInt = n) (h0 : ¬ x < 0) (h1 : ¬ N ≤ x) : vp_in x n := by
  rw [vp_in_iff]
  have a : ¬ x.toInt < 0 := fun q => h0 (Int32.lt_iff_toInt_lt.mpr (by rw [Int32.toInt_zero]; exact q))
  have b : ¬ (n : Int) ≤ x.toInt := fun q => h1 (Int32.le_iff_toInt_le.mpr (by rw [hN]; exact q))
  omega
theorem rg_in2 {x N : Int32} {n : Nat} (hN : N.toInt = n) (h0 : ¬ x < 0) (h1 : x < N) : vp_in x n := by
  rw [vp_in_iff]
  have a : ¬ x.toInt < 0 := fun q => h0 (Int32.lt_iff_toInt_lt.mpr (by rw [Int32.toInt_zero]; exact q))
  have b : x.toInt < (n : Int) := by rw [← hN]; exact Int32.lt_iff_toInt_lt.mp h1
  omega
theorem nb_lt {x : Int32} {i B : Nat} (h : ¬ x ≤ nI i) (hc : x.toInt ≤ B) (hB : B < 2 ^ 31) (hi : i ≤ B) : i + 1 ≤ B := by
  have a : ¬ x.toInt ≤ (nI i).toInt := fun q => h (Int32.le_iff_toInt_le.mpr q)
  rw [nI_toInt (by omega)] at a
  omega
theorem nI_nm1 {n : Nat} (h : n < 2 ^ 31) : ¬ nI n = -1 := fun q => by
  have a := nI_toInt h
  rw [q] at a
  have b : (-1 : Int32).toInt = -1 := by decide
  omega
end
section
def m_X4_holds (a : Int32) (k : Int32) : Bool := if ((a >>> (k &&& 31)) &&& 1) = 0 then false else true
set_option maxHeartbeats 4000000 in
set_option maxRecDepth 100000 in
theorem c_X4_holds (l : Launch) (dC : Nat → ClassId) (dI : Nat → Nat → Nat) (a : Int32) (k : Int32) : Met l yX4_holds wsX4_holds ({ frames := 0, cells := 0, slots := 0, locals := 0 } : Room) (va_Pc [.int a, .int k] (rd_P (dC, dI) vwCl [] [])) (vp_Si (fun r => r = bI (m_X4_holds a k))) 0 0 (fun _ => False) := by
  refine Met.ofW (cc := cX4_holds) (maxL := 2) (ret := (some .boolean)) (by decide) rfl ?_
  intro p e s m args below meth c s₁ B hml hv
  obtain ⟨rfl, hE, hP, hK⟩ := hv
  have hx := B.exec
  have hb := B.bytes
  have hr := B.returns
  have hts := atoms_spec (ws := wsX4_holds) B.pre
  have hown : s.vm.findClass RX4 = some m.cls := findClass_of_methodNamed B.named
  have hlocks := B.notSynchronized
  have hl := lv_entry ([.int a, .int k]) (n := 2) (Nat.le_of_ble_eq_true rfl)
  rw [lg_entry_eq]
  generalize (lg_sl ([.int a, .int k]) ++ List.replicate (2 - (lg_sl ([.int a, .int k])).length) Slot.unset).toArray = ls at hl ⊢
  have hl : lv_has ls 2 [(0, .int a), (1, .int k)] := hl
  refine lv_iload_n hx hb dX4_holds_0 rfl (lv_at hl 0 rfl) ?_
  refine lv_iload_n hx hb dX4_holds_1 rfl (lv_at hl 1 rfl) ?_
  refine lv_ishr hx hb dX4_holds_2 ?_
  refine lv_iconst (v := 1) hx hb dX4_holds_3 (by decide) ?_
  refine lv_iand hx hb dX4_holds_4 ?_
  refine lv_if_eq (tgt := 12) hx hb dX4_holds_5 (by decide) (fun c_1 => ?_) (fun c_1 => ?_)
  · skip
    refine lv_iconst (v := 0) hx hb dX4_holds_12 (by decide) ?_
    exact rd_zret (v := 0) hx hb hr hlocks rfl (by rw [(show m_X4_holds a k = false from by simp only [m_X4_holds, if_pos c_1])]; rfl) dX4_holds_13
  · skip
    refine lv_iconst (v := 1) hx hb dX4_holds_8 (by decide) ?_
    refine lv_goto (tgt := 13) hx hb dX4_holds_9 (by decide) ?_
    exact rd_zret (v := 1) hx hb hr hlocks rfl (by rw [(show m_X4_holds a k = true from by simp only [m_X4_holds, if_neg c_1])]; rfl) dX4_holds_13
def m_X4_isKind (k : Int32) : Bool := if k < 0 then false else (if 19 ≤ k then false else true)
set_option maxHeartbeats 4000000 in
set_option maxRecDepth 100000 in
theorem c_X4_isKind (l : Launch) (dC : Nat → ClassId) (dI : Nat → Nat → Nat) (k : Int32) : Met l yX4_isKind wsX4_isKind ({ frames := 0, cells := 0, slots := 0, locals := 0 } : Room) (va_Pc [.int k] (rd_P (dC, dI) vwCl [] [])) (vp_Si (fun r => r = bI (m_X4_isKind k))) 0 0 (fun _ => False) := by
  refine Met.ofW (cc := cX4_isKind) (maxL := 1) (ret := (some .boolean)) (by decide) rfl ?_
  intro p e s m args below meth c s₁ B hml hv
  obtain ⟨rfl, hE, hP, hK⟩ := hv
  have hx := B.exec
  have hb := B.bytes
  have hr := B.returns
  have hts := atoms_spec (ws := wsX4_isKind) B.pre
  have hown : s.vm.findClass RX4 = some m.cls := findClass_of_methodNamed B.named
  have hlocks := B.notSynchronized
  have hl := lv_entry ([.int k]) (n := 1) (Nat.le_of_ble_eq_true rfl)
  rw [lg_entry_eq]
  generalize (lg_sl ([.int k]) ++ List.replicate (1 - (lg_sl ([.int k])).length) Slot.unset).toArray = ls at hl ⊢
  have hl : lv_has ls 1 [(0, .int k)] := hl
  refine lv_iload_n hx hb dX4_isKind_0 rfl (lv_at hl 0 rfl) ?_
  refine lv_if_lt (tgt := 14) hx hb dX4_isKind_1 (by decide) (fun c_1 => ?_) (fun c_1 => ?_)
  · skip
    refine lv_iconst (v := 0) hx hb dX4_isKind_14 (by decide) ?_
    exact rd_zret (v := 0) hx hb hr hlocks rfl (by rw [(show m_X4_isKind k = false from by simp only [m_X4_isKind, if_pos c_1])]; rfl) dX4_isKind_15
  · skip
    refine lv_iload_n hx hb dX4_isKind_4 rfl (lv_at hl 0 rfl) ?_
    refine lv_bipush (v := 19) hx hb dX4_isKind_5 (by decide) ?_
    refine lv_icmp_ge (tgt := 14) hx hb dX4_isKind_7 (by decide) (fun c_2 => ?_) (fun c_2 => ?_)
    · skip
      refine lv_iconst (v := 0) hx hb dX4_isKind_14 (by decide) ?_
      exact rd_zret (v := 0) hx hb hr hlocks rfl (by rw [(show m_X4_isKind k = false from by simp only [m_X4_isKind, if_neg c_1, if_pos c_2])]; rfl) dX4_isKind_15
    · skip
      refine lv_iconst (v := 1) hx hb dX4_isKind_10 (by decide) ?_
      refine lv_goto (tgt := 15) hx hb dX4_isKind_11 (by decide) ?_
      exact rd_zret (v := 1) hx hb hr hlocks rfl (by rw [(show m_X4_isKind k = true from by simp only [m_X4_isKind, if_neg c_1, if_neg c_2])]; rfl) dX4_isKind_15
def m_X4_greatOf (ch : Int32) : Int32 := if ch < 97 then ch else (if 122 < ch then ch else ((ch - 97) + 65))
set_option maxHeartbeats 4000000 in
set_option maxRecDepth 100000 in
theorem c_X4_greatOf (l : Launch) (dC : Nat → ClassId) (dI : Nat → Nat → Nat) (ch : Int32) : Met l yX4_greatOf wsX4_greatOf ({ frames := 0, cells := 0, slots := 0, locals := 0 } : Room) (va_Pc [.int ch] (rd_P (dC, dI) vwCl [] [])) (vp_Si (fun r => r = m_X4_greatOf ch)) 0 0 (fun _ => False) := by
  refine Met.ofW (cc := cX4_greatOf) (maxL := 1) (ret := (some .int)) (by decide) rfl ?_
  intro p e s m args below meth c s₁ B hml hv
  obtain ⟨rfl, hE, hP, hK⟩ := hv
  have hx := B.exec
  have hb := B.bytes
  have hr := B.returns
  have hts := atoms_spec (ws := wsX4_greatOf) B.pre
  have hown : s.vm.findClass RX4 = some m.cls := findClass_of_methodNamed B.named
  have hlocks := B.notSynchronized
  have hl := lv_entry ([.int ch]) (n := 1) (Nat.le_of_ble_eq_true rfl)
  rw [lg_entry_eq]
  generalize (lg_sl ([.int ch]) ++ List.replicate (1 - (lg_sl ([.int ch])).length) Slot.unset).toArray = ls at hl ⊢
  have hl : lv_has ls 1 [(0, .int ch)] := hl
  refine lv_iload_n hx hb dX4_greatOf_0 rfl (lv_at hl 0 rfl) ?_
  refine lv_bipush (v := 97) hx hb dX4_greatOf_1 (by decide) ?_
  refine lv_icmp_lt (tgt := 22) hx hb dX4_greatOf_3 (by decide) (fun c_1 => ?_) (fun c_1 => ?_)
  · skip
    refine lv_iload_n hx hb dX4_greatOf_22 rfl (lv_at hl 0 rfl) ?_
    exact rd_iret (v := ch) hx hb hr hlocks (show m_X4_greatOf ch = ch from by simp only [m_X4_greatOf, if_pos c_1]).symm dX4_greatOf_23
  · skip
    refine lv_iload_n hx hb dX4_greatOf_6 rfl (lv_at hl 0 rfl) ?_
    refine lv_bipush (v := 122) hx hb dX4_greatOf_7 (by decide) ?_
    refine lv_icmp_gt (tgt := 22) hx hb dX4_greatOf_9 (by decide) (fun c_2 => ?_) (fun c_2 => ?_)
    · skip
      refine lv_iload_n hx hb dX4_greatOf_22 rfl (lv_at hl 0 rfl) ?_
      exact rd_iret (v := ch) hx hb hr hlocks (show m_X4_greatOf ch = ch from by simp only [m_X4_greatOf, if_neg c_1, if_pos c_2]).symm dX4_greatOf_23
    · skip
      refine lv_iload_n hx hb dX4_greatOf_12 rfl (lv_at hl 0 rfl) ?_
      refine lv_bipush (v := 97) hx hb dX4_greatOf_13 (by decide) ?_
      refine lv_isub hx hb dX4_greatOf_15 ?_
      refine lv_bipush (v := 65) hx hb dX4_greatOf_16 (by decide) ?_
      refine lv_iadd hx hb dX4_greatOf_18 ?_
      refine lv_goto (tgt := 23) hx hb dX4_greatOf_19 (by decide) ?_
      exact rd_iret (v := (ch - 97) + 65) hx hb hr hlocks (show m_X4_greatOf ch = (ch - 97) + 65 from by simp only [m_X4_greatOf, if_neg c_1, if_neg c_2]).symm dX4_greatOf_23
def m_X4_widthOf (sg : Int32) : Int32 := if sg = 67 then 2 else (if sg = 68 then 2 else 1)
set_option maxHeartbeats 4000000 in
set_option maxRecDepth 100000 in
theorem c_X4_widthOf (l : Launch) (dC : Nat → ClassId) (dI : Nat → Nat → Nat) (sg : Int32) : Met l yX4_widthOf wsX4_widthOf ({ frames := 0, cells := 0, slots := 0, locals := 0 } : Room) (va_Pc [.int sg] (rd_P (dC, dI) vwCl [] [])) (vp_Si (fun r => r = m_X4_widthOf sg)) 0 0 (fun _ => False) := by
  refine Met.ofW (cc := cX4_widthOf) (maxL := 1) (ret := (some .int)) (by decide) rfl ?_
  intro p e s m args below meth c s₁ B hml hv
  obtain ⟨rfl, hE, hP, hK⟩ := hv
  have hx := B.exec
  have hb := B.bytes
  have hr := B.returns
  have hts := atoms_spec (ws := wsX4_widthOf) B.pre
  have hown : s.vm.findClass RX4 = some m.cls := findClass_of_methodNamed B.named
  have hlocks := B.notSynchronized
  have hl := lv_entry ([.int sg]) (n := 1) (Nat.le_of_ble_eq_true rfl)
  rw [lg_entry_eq]
  generalize (lg_sl ([.int sg]) ++ List.replicate (1 - (lg_sl ([.int sg])).length) Slot.unset).toArray = ls at hl ⊢
  have hl : lv_has ls 1 [(0, .int sg)] := hl
  refine lv_iload_n hx hb dX4_widthOf_0 rfl (lv_at hl 0 rfl) ?_
  refine lv_bipush (v := 67) hx hb dX4_widthOf_1 (by decide) ?_
  refine lv_icmp_eq (tgt := 12) hx hb dX4_widthOf_3 (by decide) (fun c_1 => ?_) (fun c_1 => ?_)
  · skip
    refine lv_iconst (v := 2) hx hb dX4_widthOf_12 (by decide) ?_
    refine lv_goto (tgt := 17) hx hb dX4_widthOf_13 (by decide) ?_
    exact rd_iret (v := 2) hx hb hr hlocks (show m_X4_widthOf sg = 2 from by simp only [m_X4_widthOf, if_pos c_1]).symm dX4_widthOf_17
  · skip
    refine lv_iload_n hx hb dX4_widthOf_6 rfl (lv_at hl 0 rfl) ?_
    refine lv_bipush (v := 68) hx hb dX4_widthOf_7 (by decide) ?_
    refine lv_icmp_ne (tgt := 16) hx hb dX4_widthOf_9 (by decide) (fun c_2 => ?_) (fun c_2 => ?_)
    · skip
      refine lv_iconst (v := 1) hx hb dX4_widthOf_16 (by decide) ?_
      exact rd_iret (v := 1) hx hb hr hlocks (show m_X4_widthOf sg = 1 from by simp only [m_X4_widthOf, if_neg c_1, if_neg c_2]).symm dX4_widthOf_17
    · skip
      refine lv_iconst (v := 2) hx hb dX4_widthOf_12 (by decide) ?_
      refine lv_goto (tgt := 17) hx hb dX4_widthOf_13 (by decide) ?_
      exact rd_iret (v := 2) hx hb hr hlocks (show m_X4_widthOf sg = 2 from by simp only [m_X4_widthOf, if_neg c_1, if_pos c_2]).symm dX4_widthOf_17
def m_X4_signsCounted (sg : Int32) (tm : Int32) : Int32 := if sg = 83 then 0 else (if sg = 86 then 0 else (if sg = 80 then 0 else (tm * (m_X4_widthOf sg))))
set_option maxHeartbeats 4000000 in
set_option maxRecDepth 100000 in
theorem c_X4_signsCounted (l : Launch) (dC : Nat → ClassId) (dI : Nat → Nat → Nat) (sg : Int32) (tm : Int32) : Met l yX4_signsCounted wsX4_signsCounted ({ frames := 1, cells := 0, slots := 0, locals := 20 } : Room) (va_Pc [.int sg, .int tm] (rd_P (dC, dI) vwCl [] [])) (vp_Si (fun r => r = m_X4_signsCounted sg tm)) 0 0 (fun _ => False) := by
  refine Met.ofW (cc := cX4_signsCounted) (maxL := 2) (ret := (some .int)) (by decide) rfl ?_
  intro p e s m args below meth c s₁ B hml hv
  obtain ⟨rfl, hE, hP, hK⟩ := hv
  have hx := B.exec
  have hb := B.bytes
  have hr := B.returns
  have hts := atoms_spec (ws := wsX4_signsCounted) B.pre
  have hown : s.vm.findClass RX4 = some m.cls := findClass_of_methodNamed B.named
  have hlocks := B.notSynchronized
  have hl := lv_entry ([.int sg, .int tm]) (n := 2) (Nat.le_of_ble_eq_true rfl)
  rw [lg_entry_eq]
  generalize (lg_sl ([.int sg, .int tm]) ++ List.replicate (2 - (lg_sl ([.int sg, .int tm])).length) Slot.unset).toArray = ls at hl ⊢
  have hl : lv_has ls 2 [(0, .int sg), (1, .int tm)] := hl
  refine lv_iload_n hx hb dX4_signsCounted_0 rfl (lv_at hl 0 rfl) ?_
  refine lv_bipush (v := 83) hx hb dX4_signsCounted_1 (by decide) ?_
  refine lv_icmp_eq (tgt := 18) hx hb dX4_signsCounted_3 (by decide) (fun c_1 => ?_) (fun c_1 => ?_)
  · skip
    refine lv_iconst (v := 0) hx hb dX4_signsCounted_18 (by decide) ?_
    refine lv_goto (tgt := 28) hx hb dX4_signsCounted_19 (by decide) ?_
    exact rd_iret (v := 0) hx hb hr hlocks (show m_X4_signsCounted sg tm = 0 from by simp only [m_X4_signsCounted, if_pos c_1]).symm dX4_signsCounted_28
  · skip
    refine lv_iload_n hx hb dX4_signsCounted_6 rfl (lv_at hl 0 rfl) ?_
    refine lv_bipush (v := 86) hx hb dX4_signsCounted_7 (by decide) ?_
    refine lv_icmp_eq (tgt := 18) hx hb dX4_signsCounted_9 (by decide) (fun c_2 => ?_) (fun c_2 => ?_)
    · skip
      refine lv_iconst (v := 0) hx hb dX4_signsCounted_18 (by decide) ?_
      refine lv_goto (tgt := 28) hx hb dX4_signsCounted_19 (by decide) ?_
      exact rd_iret (v := 0) hx hb hr hlocks (show m_X4_signsCounted sg tm = 0 from by simp only [m_X4_signsCounted, if_neg c_1, if_pos c_2]).symm dX4_signsCounted_28
    · skip
      refine lv_iload_n hx hb dX4_signsCounted_12 rfl (lv_at hl 0 rfl) ?_
      refine lv_bipush (v := 80) hx hb dX4_signsCounted_13 (by decide) ?_
      refine lv_icmp_ne (tgt := 22) hx hb dX4_signsCounted_15 (by decide) (fun c_3 => ?_) (fun c_3 => ?_)
      · skip
        refine lv_iload_n hx hb dX4_signsCounted_22 rfl (lv_at hl 1 rfl) ?_
        refine lv_iload_n hx hb dX4_signsCounted_23 rfl (lv_at hl 0 rfl) ?_
        refine rd_callS (As := [.int sg]) (rest := [.int tm]) ⟨hx, hb, hml, hown, hts⟩ hE (c_X4_widthOf l dC dI sg ) (va_cwS 1 hts gX4_signsCounted_X4_widthOf rfl rfl rfl (by decide +kernel) ⟨Nat.le_of_ble_eq_true rfl, Nat.le_of_ble_eq_true rfl⟩) (hP.sub (ws' := []) [] rfl) (hK.sub [] rfl) rfl hl.1 rfl (Nat.le_of_ble_eq_true rfl) dX4_signsCounted_24 ⟨Nat.zero_le _, Nat.zero_le _⟩ (fun r9 hr9 => ?_)
        subst hr9
        refine lv_imul hx hb dX4_signsCounted_27 ?_
        exact rd_iret (v := tm * (m_X4_widthOf sg)) hx hb hr hlocks (show m_X4_signsCounted sg tm = tm * (m_X4_widthOf sg) from by simp only [m_X4_signsCounted, if_neg c_1, if_neg c_2, if_neg c_3]).symm dX4_signsCounted_28
      · skip
        refine lv_iconst (v := 0) hx hb dX4_signsCounted_18 (by decide) ?_
        refine lv_goto (tgt := 28) hx hb dX4_signsCounted_19 (by decide) ?_
        exact rd_iret (v := 0) hx hb hr hlocks (show m_X4_signsCounted sg tm = 0 from by simp only [m_X4_signsCounted, if_neg c_1, if_neg c_2, if_pos c_3]).symm dX4_signsCounted_28
def m_X3_characterAt (cs : Nat → Int32) (len : Nat) (pl : Int32) : Int32 := if pl < 0 then 0 else (if (nI len) ≤ pl then 0 else (if pl < 80 then (cs pl.toNatClampNeg) else 0))
set_option maxHeartbeats 4000000 in
set_option maxRecDepth 100000 in
theorem c_X3_characterAt (l : Launch) (dC : Nat → ClassId) (dI : Nat → Nat → Nat) (h0 : Nat) (h1 : Nat) (cA : ClassId) (cs : Nat → Int32) (len : Nat) (pl : Int32) : Met l yX3_characterAt wsX3_characterAt ({ frames := 0, cells := 0, slots := 0, locals := 0 } : Room) (va_Pc [.ref h0, .int pl] (rd_P (dC, dI) vwCl [(h0, .inr (4, [.ref h1, .int (nI len)])), (h1, .inl (cA, 80, .inl cs))] [(cA, .int)])) (vp_Si (fun r => r = m_X3_characterAt cs len pl)) 0 0 (fun _ => False) := by
  refine Met.ofW (cc := cX3_characterAt) (maxL := 2) (ret := (some .int)) (by decide) rfl ?_
  intro p e s m args below meth c s₁ B hml hv
  obtain ⟨rfl, hE, hP, hK⟩ := hv
  have hx := B.exec
  have hb := B.bytes
  have hr := B.returns
  have hts := atoms_spec (ws := wsX3_characterAt) B.pre
  have hown : s.vm.findClass RX3 = some m.cls := findClass_of_methodNamed B.named
  have hlocks := B.notSynchronized
  have hl := lv_entry ([.ref h0, .int pl]) (n := 2) (Nat.le_of_ble_eq_true rfl)
  rw [lg_entry_eq]
  generalize (lg_sl ([.ref h0, .int pl]) ++ List.replicate (2 - (lg_sl ([.ref h0, .int pl])).length) Slot.unset).toArray = ls at hl ⊢
  have hl : lv_has ls 2 [(0, .ref h0), (1, .int pl)] := hl
  refine lv_iload_n hx hb dX3_characterAt_0 rfl (lv_at hl 1 rfl) ?_
  refine lv_if_lt (tgt := 18) hx hb dX3_characterAt_1 (by decide) (fun c_1 => ?_) (fun c_1 => ?_)
  · skip
    refine lv_iconst (v := 0) hx hb dX3_characterAt_18 (by decide) ?_
    refine lv_goto (tgt := 28) hx hb dX3_characterAt_19 (by decide) ?_
    exact rd_iret (v := 0) hx hb hr hlocks (show m_X3_characterAt cs len pl = 0 from by simp only [m_X3_characterAt, if_pos c_1]).symm dX3_characterAt_28
  · skip
    refine lv_iload_n hx hb dX3_characterAt_4 rfl (lv_at hl 1 rfl) ?_
    refine lv_aload_n hx hb dX3_characterAt_5 rfl (lv_at hl 0 rfl) ?_
    refine va_get (D := (dC, dI)) (ci := 4) (v := .int (nI len)) (C := RX3) (T := TX3) (N := 2) hx hb hts (by decide +kernel) hown hK hP 0 rfl rfl 1 (by decide) (hts (.fieldLink RX3 15 "PictureRows$Text" "length" "I") (by decide +kernel)) (fun _ h9 => h9) rfl dX3_characterAt_6 ?_
    refine lv_icmp_ge (tgt := 18) hx hb dX3_characterAt_9 (by decide) (fun c_2 => ?_) (fun c_2 => ?_)
    · skip
      refine lv_iconst (v := 0) hx hb dX3_characterAt_18 (by decide) ?_
      refine lv_goto (tgt := 28) hx hb dX3_characterAt_19 (by decide) ?_
      exact rd_iret (v := 0) hx hb hr hlocks (show m_X3_characterAt cs len pl = 0 from by simp only [m_X3_characterAt, if_neg c_1, if_pos c_2]).symm dX3_characterAt_28
    · skip
      refine lv_iload_n hx hb dX3_characterAt_12 rfl (lv_at hl 1 rfl) ?_
      refine lv_bipush (v := 80) hx hb dX3_characterAt_13 (by decide) ?_
      refine lv_icmp_lt (tgt := 22) hx hb dX3_characterAt_15 (by decide) (fun c_3 => ?_) (fun c_3 => ?_)
      · skip
        refine lv_aload_n hx hb dX3_characterAt_22 rfl (lv_at hl 0 rfl) ?_
        refine va_get (D := (dC, dI)) (ci := 4) (v := .ref h1) (C := RX3) (T := TX3) (N := 2) hx hb hts (by decide +kernel) hown hK hP 0 rfl rfl 0 (by decide) (hts (.fieldLink RX3 9 "PictureRows$Text" "characters" "[I") (by decide +kernel)) (fun _ h9 => h9) rfl dX3_characterAt_23 ?_
        refine lv_iload_n hx hb dX3_characterAt_26 rfl (lv_at hl 1 rfl) ?_
        refine va_iald hx hb hK hP 1 0 rfl rfl (by exact rg_in2 (N := 80) (by decide) (by assumption) (by assumption)) dX3_characterAt_27 ?_
        exact rd_iret (v := cs pl.toNatClampNeg) hx hb hr hlocks (show m_X3_characterAt cs len pl = cs pl.toNatClampNeg from by simp only [m_X3_characterAt, if_neg c_1, if_neg c_2, if_pos c_3]).symm dX3_characterAt_28
      · skip
        refine lv_iconst (v := 0) hx hb dX3_characterAt_18 (by decide) ?_
        refine lv_goto (tgt := 28) hx hb dX3_characterAt_19 (by decide) ?_
        exact rd_iret (v := 0) hx hb hr hlocks (show m_X3_characterAt cs len pl = 0 from by simp only [m_X3_characterAt, if_neg c_1, if_neg c_2, if_neg c_3]).symm dX3_characterAt_28
def m_X2_countOf_j37_l2 (ss : Nat → Int32) (ts : Nat → Int32) (sg : Int32) (i : Nat) (x2 : Int32) : Int32 := if (ss i) = sg then x2 + (ts i) else x2
def m_X2_countOf_L4 (ss : Nat → Int32) (ts : Nat → Int32) (sz : Nat) (sg : Int32) : Nat → Nat → Int32 → Int32
  | 0, _, _ => 0
  | k4 + 1, i, x2 => if sz ≤ i then x2 else (m_X2_countOf_L4 ss ts sz sg k4 (i + 1) (m_X2_countOf_j37_l2 ss ts sg i x2))
def m_X2_countOf (ss : Nat → Int32) (ts : Nat → Int32) (sz : Nat) (sg : Int32) : Int32 := m_X2_countOf_L4 ss ts sz sg (sz + 1) 0 0
set_option maxHeartbeats 4000000 in
set_option maxRecDepth 100000 in
theorem c_X2_countOf (l : Launch) (dC : Nat → ClassId) (dI : Nat → Nat → Nat) (h0 : Nat) (h1 : Nat) (h2 : Nat) (h3 : Nat) (h4 : Nat) (h5 : Nat) (cA : ClassId) (ss : Nat → Int32) (ts : Nat → Int32) (sz : Nat) (sg : Int32) (hsz : sz ≤ 80) : Met l yX2_countOf wsX2_countOf ({ frames := 0, cells := 0, slots := 0, locals := 0 } : Room) (va_Pc [.ref h0, .int sg] (rd_P (dC, dI) vwCl [(h0, .inr (3, [.ref h1, .ref h2, .ref h3, .ref h4, .ref h5, .int (nI sz)])), (h1, .inl (cA, 80, .inl ss)), (h2, .inl (cA, 80, .inl ts))] [(cA, .int)])) (vp_Si (fun r => r = m_X2_countOf ss ts sz sg)) 0 0 (fun _ => False) := by
  refine Met.ofW (cc := cX2_countOf) (maxL := 4) (ret := (some .int)) (by decide) rfl ?_
  intro p e s m args below meth c s₁ B hml hv
  obtain ⟨rfl, hE, hP, hK⟩ := hv
  have hx := B.exec
  have hb := B.bytes
  have hr := B.returns
  have hts := atoms_spec (ws := wsX2_countOf) B.pre
  have hown : s.vm.findClass RX2 = some m.cls := findClass_of_methodNamed B.named
  have hlocks := B.notSynchronized
  have hl := lv_entry ([.ref h0, .int sg]) (n := 4) (Nat.le_of_ble_eq_true rfl)
  rw [lg_entry_eq]
  generalize (lg_sl ([.ref h0, .int sg]) ++ List.replicate (4 - (lg_sl ([.ref h0, .int sg])).length) Slot.unset).toArray = ls at hl ⊢
  have hl : lv_has ls 4 [(0, .ref h0), (1, .int sg)] := hl
  refine lv_iconst (v := 0) hx hb dX2_countOf_0 (by decide) ?_
  refine lv_istore_n (lv' := [(2, .int 0), (0, .ref h0), (1, .int sg)]) hx hb dX2_countOf_1 rfl hl (by decide) rfl (fun ls hl => ?_)
  refine lv_iconst (v := 0) hx hb dX2_countOf_2 (by decide) ?_
  refine lv_istore_n (lv' := [(3, .int 0), (2, .int 0), (0, .ref h0), (1, .int sg)]) hx hb dX2_countOf_3 rfl hl (by decide) rfl (fun ls hl => ?_)
  have lp_4 : ∀ (k4 i : Nat) (x2 : Int32), i ≤ sz → sz + 1 ≤ i + k4 → m_X2_countOf ss ts sz sg = m_X2_countOf_L4 ss ts sz sg k4 i x2 → ∀ (ls : Array Slot), lv_has ls 4 [(0, .ref h0), (1, .int sg), (2, .int x2), (3, .int (nI i))] → W p l e (headSpec wsX2_countOf ({ frames := 0, cells := 0, slots := 0, locals := 0 } : Room)).room s m (([.ref h0, .int sg] : List Value).toArray) below meth c s.heap [] 0 0 (MQ below (vp_Si (fun r => r = m_X2_countOf ss ts sz sg)) (([.ref h0, .int sg] : List Value).toArray) s 0 0 (fun _ => False)) (F0 m 4 ls []) := by
    intro k4
    induction k4 with
    | zero => intro i x2 h1_ h2_; exfalso; omega
    | succ k4 ih4 =>
      intro i x2 hb4 hf4  hm4 ls hl
      refine lv_iload_n hx hb dX2_countOf_4 rfl (lv_at hl 3 rfl) ?_
      refine lv_aload_n hx hb dX2_countOf_5 rfl (lv_at hl 0 rfl) ?_
      refine va_get (D := (dC, dI)) (ci := 3) (v := .int (nI sz)) (C := RX2) (T := TX2) (N := 6) hx hb hts (by decide +kernel) hown hK hP 0 rfl rfl 5 (by decide) (hts (.fieldLink RX2 27 "PictureRows$Runs" "size" "I") (by decide +kernel)) (fun _ h9 => h9) rfl dX2_countOf_6 ?_
      refine lv_icmp_ge (tgt := 43) hx hb dX2_countOf_9 (by decide) (fun c_1 => ?_) (fun c_1 => ?_)
      · skip
        have c_1 : sz ≤ i := (nI_leI (a := sz) (b := i) (by omega) (by omega)).mp c_1
        refine lv_iload_n hx hb dX2_countOf_43 rfl (lv_at hl 2 rfl) ?_
        exact rd_iret (v := x2) hx hb hr hlocks (show m_X2_countOf ss ts sz sg = x2 from hm4.trans (by simp only [m_X2_countOf_L4, if_pos c_1])).symm dX2_countOf_44
      · skip
        have c_1 : ¬ sz ≤ i := (fun q_ => c_1 ((nI_leI (a := sz) (b := i) (by omega) (by omega)).mpr q_))
        refine lv_iload_n hx hb dX2_countOf_12 rfl (lv_at hl 3 rfl) ?_
        refine lv_bipush (v := 80) hx hb dX2_countOf_13 (by decide) ?_
        refine lv_icmp_ge (tgt := 43) hx hb dX2_countOf_15 (by decide) (fun c_2 => ?_) (fun c_2 => ?_)
        · skip
          have c_2 : 80 ≤ i := (nI_leI (a := 80) (b := i) (by omega) (by omega)).mp c_2
          exfalso; omega
        · skip
          have c_2 : ¬ 80 ≤ i := (fun q_ => c_2 ((nI_leI (a := 80) (b := i) (by omega) (by omega)).mpr q_))
          refine lv_aload_n hx hb dX2_countOf_18 rfl (lv_at hl 0 rfl) ?_
          refine va_get (D := (dC, dI)) (ci := 3) (v := .ref h1) (C := RX2) (T := TX2) (N := 6) hx hb hts (by decide +kernel) hown hK hP 0 rfl rfl 0 (by decide) (hts (.fieldLink RX2 9 "PictureRows$Runs" "signs" "[I") (by decide +kernel)) (fun _ h9 => h9) rfl dX2_countOf_19 ?_
          refine lv_iload_n hx hb dX2_countOf_22 rfl (lv_at hl 3 rfl) ?_
          refine rd_iald hx hb hK hP 1 0 rfl rfl (i) (by omega) (by omega) dX2_countOf_23 ?_
          refine lv_iload_n hx hb dX2_countOf_24 rfl (lv_at hl 1 rfl) ?_
          have j_3 : ∀ (y0_j_3 : Int32), y0_j_3 = m_X2_countOf_j37_l2 ss ts sg i x2 → ∀ (ls : Array Slot), lv_has ls 4 [(0, .ref h0), (1, .int sg), (2, .int y0_j_3), (3, .int (nI i))] → W p l e (headSpec wsX2_countOf ({ frames := 0, cells := 0, slots := 0, locals := 0 } : Room)).room s m (([.ref h0, .int sg] : List Value).toArray) below meth c s.heap [] 0 0 (MQ below (vp_Si (fun r => r = m_X2_countOf ss ts sz sg)) (([.ref h0, .int sg] : List Value).toArray) s 0 0 (fun _ => False)) (F0 m 37 ls []) := by
            intro y0_j_3 ey0_j_3 ls hl
            subst ey0_j_3
            refine lv_iinc (v := nI (i + 1)) (lv' := [(3, .int (nI (i + 1))), (0, .ref h0), (1, .int sg), (2, .int (m_X2_countOf_j37_l2 ss ts sg i x2))]) hx hb dX2_countOf_37 hl (k := 3) rfl (nI_add (i) 1) (by decide) rfl (fun ls hl => ?_)
            refine lv_goto (tgt := 4) hx hb dX2_countOf_40 (by decide) ?_
            exact ih4 (i + 1) (m_X2_countOf_j37_l2 ss ts sg i x2) (by omega) (by omega)  (hm4.trans (by simp only [m_X2_countOf_L4, if_neg c_1])) ls (lv_sub hl [1, 2, 3, 0] rfl)
          refine lv_icmp_ne (tgt := 37) hx hb dX2_countOf_25 (by decide) (fun c_4 => ?_) (fun c_4 => ?_)
          · skip
            exact j_3 x2 (by simp only [m_X2_countOf_j37_l2, if_neg c_4]) ls (lv_sub hl [0, 1, 2, 3] rfl)
          · skip
            refine lv_iload_n hx hb dX2_countOf_28 rfl (lv_at hl 2 rfl) ?_
            refine lv_aload_n hx hb dX2_countOf_29 rfl (lv_at hl 0 rfl) ?_
            refine va_get (D := (dC, dI)) (ci := 3) (v := .ref h2) (C := RX2) (T := TX2) (N := 6) hx hb hts (by decide +kernel) hown hK hP 0 rfl rfl 1 (by decide) (hts (.fieldLink RX2 15 "PictureRows$Runs" "times" "[I") (by decide +kernel)) (fun _ h9 => h9) rfl dX2_countOf_30 ?_
            refine lv_iload_n hx hb dX2_countOf_33 rfl (lv_at hl 3 rfl) ?_
            refine rd_iald hx hb hK hP 2 0 rfl rfl (i) (by omega) (by omega) dX2_countOf_34 ?_
            refine lv_iadd hx hb dX2_countOf_35 ?_
            refine lv_istore_n (lv' := [(2, .int (x2 + (ts i))), (0, .ref h0), (1, .int sg), (3, .int (nI i))]) hx hb dX2_countOf_36 rfl hl (by decide) rfl (fun ls hl => ?_)
            exact j_3 (x2 + (ts i)) (by simp only [m_X2_countOf_j37_l2, if_pos c_4]) ls (lv_sub hl [1, 2, 0, 3] rfl)
  exact lp_4 (sz + 1) (0) 0 (by omega) (by omega)  (show m_X2_countOf ss ts sz sg = m_X2_countOf_L4 ss ts sz sg (sz + 1) 0 0 from by simp only [m_X2_countOf]) ls (lv_sub hl [2, 3, 1, 0] rfl)
def m_X2_standsAhead_L2 (ss : Nat → Int32) (sg : Int32) (en : Nat) : Nat → Nat → Bool
  | 0, _ => false
  | k2 + 1, i => if en ≤ i then false else (if (ss i) = sg then true else (m_X2_standsAhead_L2 ss sg en k2 (i + 1)))
def m_X2_standsAhead (ss : Nat → Int32) (sg : Int32) (en : Nat) : Bool := m_X2_standsAhead_L2 ss sg en (en + 1) 0
set_option maxHeartbeats 4000000 in
set_option maxRecDepth 100000 in
theorem c_X2_standsAhead (l : Launch) (dC : Nat → ClassId) (dI : Nat → Nat → Nat) (h0 : Nat) (h1 : Nat) (h2 : Nat) (h3 : Nat) (h4 : Nat) (h5 : Nat) (cA : ClassId) (sz : Nat) (ss : Nat → Int32) (sg : Int32) (en : Nat) (hsz : sz ≤ 80) (hen : en ≤ 80) : Met l yX2_standsAhead wsX2_standsAhead ({ frames := 0, cells := 0, slots := 0, locals := 0 } : Room) (va_Pc [.ref h0, .int sg, .int (nI en)] (rd_P (dC, dI) vwCl [(h0, .inr (3, [.ref h1, .ref h2, .ref h3, .ref h4, .ref h5, .int (nI sz)])), (h1, .inl (cA, 80, .inl ss))] [(cA, .int)])) (vp_Si (fun r => r = bI (m_X2_standsAhead ss sg en))) 0 0 (fun _ => False) := by
  refine Met.ofW (cc := cX2_standsAhead) (maxL := 4) (ret := (some .boolean)) (by decide) rfl ?_
  intro p e s m args below meth c s₁ B hml hv
  obtain ⟨rfl, hE, hP, hK⟩ := hv
  have hx := B.exec
  have hb := B.bytes
  have hr := B.returns
  have hts := atoms_spec (ws := wsX2_standsAhead) B.pre
  have hown : s.vm.findClass RX2 = some m.cls := findClass_of_methodNamed B.named
  have hlocks := B.notSynchronized
  have hl := lv_entry ([.ref h0, .int sg, .int (nI en)]) (n := 4) (Nat.le_of_ble_eq_true rfl)
  rw [lg_entry_eq]
  generalize (lg_sl ([.ref h0, .int sg, .int (nI en)]) ++ List.replicate (4 - (lg_sl ([.ref h0, .int sg, .int (nI en)])).length) Slot.unset).toArray = ls at hl ⊢
  have hl : lv_has ls 4 [(0, .ref h0), (1, .int sg), (2, .int (nI en))] := hl
  refine lv_iconst (v := 0) hx hb dX2_standsAhead_0 (by decide) ?_
  refine lv_istore_n (lv' := [(3, .int 0), (0, .ref h0), (1, .int sg), (2, .int (nI en))]) hx hb dX2_standsAhead_1 rfl hl (by decide) rfl (fun ls hl => ?_)
  have lp_2 : ∀ (k2 i : Nat), i ≤ en → en + 1 ≤ i + k2 → m_X2_standsAhead ss sg en = m_X2_standsAhead_L2 ss sg en k2 i → ∀ (ls : Array Slot), lv_has ls 4 [(0, .ref h0), (1, .int sg), (2, .int (nI en)), (3, .int (nI i))] → W p l e (headSpec wsX2_standsAhead ({ frames := 0, cells := 0, slots := 0, locals := 0 } : Room)).room s m (([.ref h0, .int sg, .int (nI en)] : List Value).toArray) below meth c s.heap [] 0 0 (MQ below (vp_Si (fun r => r = bI (m_X2_standsAhead ss sg en))) (([.ref h0, .int sg, .int (nI en)] : List Value).toArray) s 0 0 (fun _ => False)) (F0 m 2 ls []) := by
    intro k2
    induction k2 with
    | zero => intro i  h1_ h2_; exfalso; omega
    | succ k2 ih2 =>
      intro i  hb2 hf2  hm2 ls hl
      refine lv_iload_n hx hb dX2_standsAhead_2 rfl (lv_at hl 3 rfl) ?_
      refine lv_iload_n hx hb dX2_standsAhead_3 rfl (lv_at hl 2 rfl) ?_
      refine lv_icmp_ge (tgt := 31) hx hb dX2_standsAhead_4 (by decide) (fun c_1 => ?_) (fun c_1 => ?_)
      · skip
        have c_1 : en ≤ i := (nI_leI (a := en) (b := i) (by omega) (by omega)).mp c_1
        refine lv_iconst (v := 0) hx hb dX2_standsAhead_31 (by decide) ?_
        exact rd_zret (v := 0) hx hb hr hlocks rfl (by rw [(show m_X2_standsAhead ss sg en = false from hm2.trans (by simp only [m_X2_standsAhead_L2, if_pos c_1]))]; rfl) dX2_standsAhead_32
      · skip
        have c_1 : ¬ en ≤ i := (fun q_ => c_1 ((nI_leI (a := en) (b := i) (by omega) (by omega)).mpr q_))
        refine lv_iload_n hx hb dX2_standsAhead_7 rfl (lv_at hl 3 rfl) ?_
        refine lv_bipush (v := 80) hx hb dX2_standsAhead_8 (by decide) ?_
        refine lv_icmp_ge (tgt := 31) hx hb dX2_standsAhead_10 (by decide) (fun c_2 => ?_) (fun c_2 => ?_)
        · skip
          have c_2 : 80 ≤ i := (nI_leI (a := 80) (b := i) (by omega) (by omega)).mp c_2
          exfalso; omega
        · skip
          have c_2 : ¬ 80 ≤ i := (fun q_ => c_2 ((nI_leI (a := 80) (b := i) (by omega) (by omega)).mpr q_))
          refine lv_aload_n hx hb dX2_standsAhead_13 rfl (lv_at hl 0 rfl) ?_
          refine va_get (D := (dC, dI)) (ci := 3) (v := .ref h1) (C := RX2) (T := TX2) (N := 6) hx hb hts (by decide +kernel) hown hK hP 0 rfl rfl 0 (by decide) (hts (.fieldLink RX2 9 "PictureRows$Runs" "signs" "[I") (by decide +kernel)) (fun _ h9 => h9) rfl dX2_standsAhead_14 ?_
          refine lv_iload_n hx hb dX2_standsAhead_17 rfl (lv_at hl 3 rfl) ?_
          refine rd_iald hx hb hK hP 1 0 rfl rfl (i) (by omega) (by omega) dX2_standsAhead_18 ?_
          refine lv_iload_n hx hb dX2_standsAhead_19 rfl (lv_at hl 1 rfl) ?_
          refine lv_icmp_ne (tgt := 25) hx hb dX2_standsAhead_20 (by decide) (fun c_3 => ?_) (fun c_3 => ?_)
          · skip
            refine lv_iinc (v := nI (i + 1)) (lv' := [(3, .int (nI (i + 1))), (0, .ref h0), (1, .int sg), (2, .int (nI en))]) hx hb dX2_standsAhead_25 hl (k := 3) rfl (nI_add (i) 1) (by decide) rfl (fun ls hl => ?_)
            refine lv_goto (tgt := 2) hx hb dX2_standsAhead_28 (by decide) ?_
            exact ih2 (i + 1)  (by omega) (by omega)  (hm2.trans (by simp only [m_X2_standsAhead_L2, if_neg c_1, if_neg c_3])) ls (lv_sub hl [1, 2, 3, 0] rfl)
          · skip
            refine lv_iconst (v := 1) hx hb dX2_standsAhead_23 (by decide) ?_
            exact rd_zret (v := 1) hx hb hr hlocks rfl (by rw [(show m_X2_standsAhead ss sg en = true from hm2.trans (by simp only [m_X2_standsAhead_L2, if_neg c_1, if_pos c_3]))]; rfl) dX2_standsAhead_24
  exact lp_2 (en + 1) (0)  (by omega) (by omega)  (show m_X2_standsAhead ss sg en = m_X2_standsAhead_L2 ss sg en (en + 1) 0 from by simp only [m_X2_standsAhead]) ls (lv_sub hl [1, 2, 3, 0] rfl)
def m_X2_kindsPresent_L4 (ks : Nat → Int32) (sz : Nat) : Nat → Nat → Int32 → Int32
  | 0, _, _ => 0
  | k4 + 1, i, x1 => if sz ≤ i then x1 else (m_X2_kindsPresent_L4 ks sz k4 (i + 1) (x1 ||| (1 <<< ((ks i) &&& 31))))
def m_X2_kindsPresent (ks : Nat → Int32) (sz : Nat) : Int32 := m_X2_kindsPresent_L4 ks sz (sz + 1) 0 0
set_option maxHeartbeats 4000000 in
set_option maxRecDepth 100000 in
theorem c_X2_kindsPresent (l : Launch) (dC : Nat → ClassId) (dI : Nat → Nat → Nat) (h0 : Nat) (h1 : Nat) (h2 : Nat) (h3 : Nat) (h4 : Nat) (h5 : Nat) (cA : ClassId) (ks : Nat → Int32) (sz : Nat) (hsz : sz ≤ 80) : Met l yX2_kindsPresent wsX2_kindsPresent ({ frames := 0, cells := 0, slots := 0, locals := 0 } : Room) (va_Pc [.ref h0] (rd_P (dC, dI) vwCl [(h0, .inr (3, [.ref h1, .ref h2, .ref h3, .ref h4, .ref h5, .int (nI sz)])), (h4, .inl (cA, 80, .inl ks))] [(cA, .int)])) (vp_Si (fun r => r = m_X2_kindsPresent ks sz)) 0 0 (fun _ => False) := by
  refine Met.ofW (cc := cX2_kindsPresent) (maxL := 3) (ret := (some .int)) (by decide) rfl ?_
  intro p e s m args below meth c s₁ B hml hv
  obtain ⟨rfl, hE, hP, hK⟩ := hv
  have hx := B.exec
  have hb := B.bytes
  have hr := B.returns
  have hts := atoms_spec (ws := wsX2_kindsPresent) B.pre
  have hown : s.vm.findClass RX2 = some m.cls := findClass_of_methodNamed B.named
  have hlocks := B.notSynchronized
  have hl := lv_entry ([.ref h0]) (n := 3) (Nat.le_of_ble_eq_true rfl)
  rw [lg_entry_eq]
  generalize (lg_sl ([.ref h0]) ++ List.replicate (3 - (lg_sl ([.ref h0])).length) Slot.unset).toArray = ls at hl ⊢
  have hl : lv_has ls 3 [(0, .ref h0)] := hl
  refine lv_iconst (v := 0) hx hb dX2_kindsPresent_0 (by decide) ?_
  refine lv_istore_n (lv' := [(1, .int 0), (0, .ref h0)]) hx hb dX2_kindsPresent_1 rfl hl (by decide) rfl (fun ls hl => ?_)
  refine lv_iconst (v := 0) hx hb dX2_kindsPresent_2 (by decide) ?_
  refine lv_istore_n (lv' := [(2, .int 0), (1, .int 0), (0, .ref h0)]) hx hb dX2_kindsPresent_3 rfl hl (by decide) rfl (fun ls hl => ?_)
  have lp_4 : ∀ (k4 i : Nat) (x1 : Int32), i ≤ sz → sz + 1 ≤ i + k4 → m_X2_kindsPresent ks sz = m_X2_kindsPresent_L4 ks sz k4 i x1 → ∀ (ls : Array Slot), lv_has ls 3 [(0, .ref h0), (1, .int x1), (2, .int (nI i))] → W p l e (headSpec wsX2_kindsPresent ({ frames := 0, cells := 0, slots := 0, locals := 0 } : Room)).room s m (([.ref h0] : List Value).toArray) below meth c s.heap [] 0 0 (MQ below (vp_Si (fun r => r = m_X2_kindsPresent ks sz)) (([.ref h0] : List Value).toArray) s 0 0 (fun _ => False)) (F0 m 4 ls []) := by
    intro k4
    induction k4 with
    | zero => intro i x1 h1_ h2_; exfalso; omega
    | succ k4 ih4 =>
      intro i x1 hb4 hf4  hm4 ls hl
      refine lv_iload_n hx hb dX2_kindsPresent_4 rfl (lv_at hl 2 rfl) ?_
      refine lv_aload_n hx hb dX2_kindsPresent_5 rfl (lv_at hl 0 rfl) ?_
      refine va_get (D := (dC, dI)) (ci := 3) (v := .int (nI sz)) (C := RX2) (T := TX2) (N := 6) hx hb hts (by decide +kernel) hown hK hP 0 rfl rfl 5 (by decide) (hts (.fieldLink RX2 27 "PictureRows$Runs" "size" "I") (by decide +kernel)) (fun _ h9 => h9) rfl dX2_kindsPresent_6 ?_
      refine lv_icmp_ge (tgt := 35) hx hb dX2_kindsPresent_9 (by decide) (fun c_1 => ?_) (fun c_1 => ?_)
      · skip
        have c_1 : sz ≤ i := (nI_leI (a := sz) (b := i) (by omega) (by omega)).mp c_1
        refine lv_iload_n hx hb dX2_kindsPresent_35 rfl (lv_at hl 1 rfl) ?_
        exact rd_iret (v := x1) hx hb hr hlocks (show m_X2_kindsPresent ks sz = x1 from hm4.trans (by simp only [m_X2_kindsPresent_L4, if_pos c_1])).symm dX2_kindsPresent_36
      · skip
        have c_1 : ¬ sz ≤ i := (fun q_ => c_1 ((nI_leI (a := sz) (b := i) (by omega) (by omega)).mpr q_))
        refine lv_iload_n hx hb dX2_kindsPresent_12 rfl (lv_at hl 2 rfl) ?_
        refine lv_bipush (v := 80) hx hb dX2_kindsPresent_13 (by decide) ?_
        refine lv_icmp_ge (tgt := 35) hx hb dX2_kindsPresent_15 (by decide) (fun c_2 => ?_) (fun c_2 => ?_)
        · skip
          have c_2 : 80 ≤ i := (nI_leI (a := 80) (b := i) (by omega) (by omega)).mp c_2
          exfalso; omega
        · skip
          have c_2 : ¬ 80 ≤ i := (fun q_ => c_2 ((nI_leI (a := 80) (b := i) (by omega) (by omega)).mpr q_))
          refine lv_iload_n hx hb dX2_kindsPresent_18 rfl (lv_at hl 1 rfl) ?_
          refine lv_iconst (v := 1) hx hb dX2_kindsPresent_19 (by decide) ?_
          refine lv_aload_n hx hb dX2_kindsPresent_20 rfl (lv_at hl 0 rfl) ?_
          refine va_get (D := (dC, dI)) (ci := 3) (v := .ref h4) (C := RX2) (T := TX2) (N := 6) hx hb hts (by decide +kernel) hown hK hP 0 rfl rfl 3 (by decide) (hts (.fieldLink RX2 21 "PictureRows$Runs" "kinds" "[I") (by decide +kernel)) (fun _ h9 => h9) rfl dX2_kindsPresent_21 ?_
          refine lv_iload_n hx hb dX2_kindsPresent_24 rfl (lv_at hl 2 rfl) ?_
          refine rd_iald hx hb hK hP 1 0 rfl rfl (i) (by omega) (by omega) dX2_kindsPresent_25 ?_
          refine lv_ishl hx hb dX2_kindsPresent_26 ?_
          refine lv_ior hx hb dX2_kindsPresent_27 ?_
          refine lv_istore_n (lv' := [(1, .int (x1 ||| (1 <<< ((ks i) &&& 31)))), (0, .ref h0), (2, .int (nI i))]) hx hb dX2_kindsPresent_28 rfl hl (by decide) rfl (fun ls hl => ?_)
          refine lv_iinc (v := nI (i + 1)) (lv' := [(2, .int (nI (i + 1))), (1, .int (x1 ||| (1 <<< ((ks i) &&& 31)))), (0, .ref h0)]) hx hb dX2_kindsPresent_29 hl (k := 2) rfl (nI_add (i) 1) (by decide) rfl (fun ls hl => ?_)
          refine lv_goto (tgt := 4) hx hb dX2_kindsPresent_32 (by decide) ?_
          exact ih4 (i + 1) (x1 ||| (1 <<< ((ks i) &&& 31))) (by omega) (by omega)  (hm4.trans (by simp only [m_X2_kindsPresent_L4, if_neg c_1])) ls (lv_sub hl [2, 1, 0] rfl)
  exact lp_4 (sz + 1) (0) 0 (by omega) (by omega)  (show m_X2_kindsPresent ks sz = m_X2_kindsPresent_L4 ks sz (sz + 1) 0 0 from by simp only [m_X2_kindsPresent]) ls (lv_sub hl [2, 1, 0] rfl)
def m_X2_pointRun_L2 (ks : Nat → Int32) (sz : Nat) : Nat → Nat → Int32
  | 0, _ => 0
  | k2 + 1, i => if sz ≤ i then (nI sz) else (if (m_X4_holds 98308 (ks i)) = false then (m_X2_pointRun_L2 ks sz k2 (i + 1)) else (nI i))
def m_X2_pointRun (ks : Nat → Int32) (sz : Nat) : Int32 := m_X2_pointRun_L2 ks sz (sz + 1) 0
set_option maxHeartbeats 4000000 in
set_option maxRecDepth 100000 in
theorem c_X2_pointRun (l : Launch) (dC : Nat → ClassId) (dI : Nat → Nat → Nat) (h0 : Nat) (h1 : Nat) (h2 : Nat) (h3 : Nat) (h4 : Nat) (h5 : Nat) (cA : ClassId) (ks : Nat → Int32) (sz : Nat) (hsz : sz ≤ 80) : Met l yX2_pointRun wsX2_pointRun ({ frames := 1, cells := 0, slots := 0, locals := 21 } : Room) (va_Pc [.ref h0] (rd_P (dC, dI) vwCl [(h0, .inr (3, [.ref h1, .ref h2, .ref h3, .ref h4, .ref h5, .int (nI sz)])), (h4, .inl (cA, 80, .inl ks))] [(cA, .int)])) (vp_Si (fun r => r = m_X2_pointRun ks sz)) 0 0 (fun _ => False) := by
  refine Met.ofW (cc := cX2_pointRun) (maxL := 2) (ret := (some .int)) (by decide) rfl ?_
  intro p e s m args below meth c s₁ B hml hv
  obtain ⟨rfl, hE, hP, hK⟩ := hv
  have hx := B.exec
  have hb := B.bytes
  have hr := B.returns
  have hts := atoms_spec (ws := wsX2_pointRun) B.pre
  have hown : s.vm.findClass RX2 = some m.cls := findClass_of_methodNamed B.named
  have hlocks := B.notSynchronized
  have hl := lv_entry ([.ref h0]) (n := 2) (Nat.le_of_ble_eq_true rfl)
  rw [lg_entry_eq]
  generalize (lg_sl ([.ref h0]) ++ List.replicate (2 - (lg_sl ([.ref h0])).length) Slot.unset).toArray = ls at hl ⊢
  have hl : lv_has ls 2 [(0, .ref h0)] := hl
  refine lv_iconst (v := 0) hx hb dX2_pointRun_0 (by decide) ?_
  refine lv_istore_n (lv' := [(1, .int 0), (0, .ref h0)]) hx hb dX2_pointRun_1 rfl hl (by decide) rfl (fun ls hl => ?_)
  have lp_2 : ∀ (k2 i : Nat), i ≤ sz → sz + 1 ≤ i + k2 → m_X2_pointRun ks sz = m_X2_pointRun_L2 ks sz k2 i → ∀ (ls : Array Slot), lv_has ls 2 [(0, .ref h0), (1, .int (nI i))] → W p l e (headSpec wsX2_pointRun ({ frames := 1, cells := 0, slots := 0, locals := 21 } : Room)).room s m (([.ref h0] : List Value).toArray) below meth c s.heap [] 0 0 (MQ below (vp_Si (fun r => r = m_X2_pointRun ks sz)) (([.ref h0] : List Value).toArray) s 0 0 (fun _ => False)) (F0 m 2 ls []) := by
    intro k2
    induction k2 with
    | zero => intro i  h1_ h2_; exfalso; omega
    | succ k2 ih2 =>
      intro i  hb2 hf2  hm2 ls hl
      refine lv_iload_n hx hb dX2_pointRun_2 rfl (lv_at hl 1 rfl) ?_
      refine lv_aload_n hx hb dX2_pointRun_3 rfl (lv_at hl 0 rfl) ?_
      refine va_get (D := (dC, dI)) (ci := 3) (v := .int (nI sz)) (C := RX2) (T := TX2) (N := 6) hx hb hts (by decide +kernel) hown hK hP 0 rfl rfl 5 (by decide) (hts (.fieldLink RX2 27 "PictureRows$Runs" "size" "I") (by decide +kernel)) (fun _ h9 => h9) rfl dX2_pointRun_4 ?_
      refine lv_icmp_ge (tgt := 38) hx hb dX2_pointRun_7 (by decide) (fun c_1 => ?_) (fun c_1 => ?_)
      · skip
        have c_1 : sz ≤ i := (nI_leI (a := sz) (b := i) (by omega) (by omega)).mp c_1
        refine lv_aload_n hx hb dX2_pointRun_38 rfl (lv_at hl 0 rfl) ?_
        refine va_get (D := (dC, dI)) (ci := 3) (v := .int (nI sz)) (C := RX2) (T := TX2) (N := 6) hx hb hts (by decide +kernel) hown hK hP 0 rfl rfl 5 (by decide) (hts (.fieldLink RX2 27 "PictureRows$Runs" "size" "I") (by decide +kernel)) (fun _ h9 => h9) rfl dX2_pointRun_39 ?_
        exact rd_iret (v := nI sz) hx hb hr hlocks (show m_X2_pointRun ks sz = nI sz from hm2.trans (by simp only [m_X2_pointRun_L2, if_pos c_1])).symm dX2_pointRun_42
      · skip
        have c_1 : ¬ sz ≤ i := (fun q_ => c_1 ((nI_leI (a := sz) (b := i) (by omega) (by omega)).mpr q_))
        refine lv_iload_n hx hb dX2_pointRun_10 rfl (lv_at hl 1 rfl) ?_
        refine lv_bipush (v := 80) hx hb dX2_pointRun_11 (by decide) ?_
        refine lv_icmp_ge (tgt := 38) hx hb dX2_pointRun_13 (by decide) (fun c_2 => ?_) (fun c_2 => ?_)
        · skip
          have c_2 : 80 ≤ i := (nI_leI (a := 80) (b := i) (by omega) (by omega)).mp c_2
          exfalso; omega
        · skip
          have c_2 : ¬ 80 ≤ i := (fun q_ => c_2 ((nI_leI (a := 80) (b := i) (by omega) (by omega)).mpr q_))
          refine lv_ldc (v := 98308) hx hb hown (hts (.constant RX2 64 98308) (by decide +kernel)) dX2_pointRun_16 ?_
          refine lv_aload_n hx hb dX2_pointRun_18 rfl (lv_at hl 0 rfl) ?_
          refine va_get (D := (dC, dI)) (ci := 3) (v := .ref h4) (C := RX2) (T := TX2) (N := 6) hx hb hts (by decide +kernel) hown hK hP 0 rfl rfl 3 (by decide) (hts (.fieldLink RX2 21 "PictureRows$Runs" "kinds" "[I") (by decide +kernel)) (fun _ h9 => h9) rfl dX2_pointRun_19 ?_
          refine lv_iload_n hx hb dX2_pointRun_22 rfl (lv_at hl 1 rfl) ?_
          refine rd_iald hx hb hK hP 1 0 rfl rfl (i) (by omega) (by omega) dX2_pointRun_23 ?_
          refine rd_callSN (As := [.int 98308, .int (ks i)]) (rest := []) ⟨hx, hb, hml, hown, hts⟩ hE (c_X4_holds l dC dI 98308 (ks i) ) ⟨va_cnB 2 hts gX2_pointRun_X4_holds_n67 rfl rfl rfl (hE.1.2 ("PictureRows$Runs", 67, yX4_holds) (by decide)) (hts (.initialized RX4) (by decide +kernel)) (by decide +kernel) ⟨Nat.le_of_ble_eq_true rfl, Nat.le_of_ble_eq_true rfl⟩, hts (.static yX4_holds) (by decide +kernel), trivial⟩ (hP.sub (ws' := []) [] rfl) (hK.sub [] rfl) rfl hl.1 rfl (Nat.le_of_ble_eq_true rfl) dX2_pointRun_24 ⟨Nat.zero_le _, Nat.zero_le _⟩ (fun r9 hr9 => ?_)
          subst hr9
          refine lv_if_eq (tgt := 32) hx hb dX2_pointRun_27 (by decide) (fun c_3 => ?_) (fun c_3 => ?_)
          · skip
            have c_3 := bI_0 c_3
            refine lv_iinc (v := nI (i + 1)) (lv' := [(1, .int (nI (i + 1))), (0, .ref h0)]) hx hb dX2_pointRun_32 hl (k := 1) rfl (nI_add (i) 1) (by decide) rfl (fun ls hl => ?_)
            refine lv_goto (tgt := 2) hx hb dX2_pointRun_35 (by decide) ?_
            exact ih2 (i + 1)  (by omega) (by omega)  (hm2.trans (by simp only [m_X2_pointRun_L2, if_neg c_1, if_pos c_3])) ls (lv_sub hl [1, 0] rfl)
          · skip
            have c_3 := bI_n0 c_3
            refine lv_iload_n hx hb dX2_pointRun_30 rfl (lv_at hl 1 rfl) ?_
            exact rd_iret (v := nI i) hx hb hr hlocks (show m_X2_pointRun ks sz = nI i from hm2.trans (by simp only [m_X2_pointRun_L2, if_neg c_1, if_neg c_3])).symm dX2_pointRun_31
  exact lp_2 (sz + 1) (0)  (by omega) (by omega)  (show m_X2_pointRun ks sz = m_X2_pointRun_L2 ks sz (sz + 1) 0 from by simp only [m_X2_pointRun]) ls (lv_sub hl [1, 0] rfl)
def m_X2_allSignsCounted_L4 (ss : Nat → Int32) (ts : Nat → Int32) (sz : Nat) : Nat → Nat → Int32 → Int32
  | 0, _, _ => 0
  | k4 + 1, i, x1 => if sz ≤ i then x1 else (m_X2_allSignsCounted_L4 ss ts sz k4 (i + 1) (x1 + (m_X4_signsCounted (ss i) (ts i))))
def m_X2_allSignsCounted (ss : Nat → Int32) (ts : Nat → Int32) (sz : Nat) : Int32 := m_X2_allSignsCounted_L4 ss ts sz (sz + 1) 0 0
set_option maxHeartbeats 4000000 in
set_option maxRecDepth 100000 in
theorem c_X2_allSignsCounted (l : Launch) (dC : Nat → ClassId) (dI : Nat → Nat → Nat) (h0 : Nat) (h1 : Nat) (h2 : Nat) (h3 : Nat) (h4 : Nat) (h5 : Nat) (cA : ClassId) (ss : Nat → Int32) (ts : Nat → Int32) (sz : Nat) (hsz : sz ≤ 80) : Met l yX2_allSignsCounted wsX2_allSignsCounted ({ frames := 2, cells := 0, slots := 0, locals := 41 } : Room) (va_Pc [.ref h0] (rd_P (dC, dI) vwCl [(h0, .inr (3, [.ref h1, .ref h2, .ref h3, .ref h4, .ref h5, .int (nI sz)])), (h1, .inl (cA, 80, .inl ss)), (h2, .inl (cA, 80, .inl ts))] [(cA, .int)])) (vp_Si (fun r => r = m_X2_allSignsCounted ss ts sz)) 0 0 (fun _ => False) := by
  refine Met.ofW (cc := cX2_allSignsCounted) (maxL := 3) (ret := (some .int)) (by decide) rfl ?_
  intro p e s m args below meth c s₁ B hml hv
  obtain ⟨rfl, hE, hP, hK⟩ := hv
  have hx := B.exec
  have hb := B.bytes
  have hr := B.returns
  have hts := atoms_spec (ws := wsX2_allSignsCounted) B.pre
  have hown : s.vm.findClass RX2 = some m.cls := findClass_of_methodNamed B.named
  have hlocks := B.notSynchronized
  have hl := lv_entry ([.ref h0]) (n := 3) (Nat.le_of_ble_eq_true rfl)
  rw [lg_entry_eq]
  generalize (lg_sl ([.ref h0]) ++ List.replicate (3 - (lg_sl ([.ref h0])).length) Slot.unset).toArray = ls at hl ⊢
  have hl : lv_has ls 3 [(0, .ref h0)] := hl
  refine lv_iconst (v := 0) hx hb dX2_allSignsCounted_0 (by decide) ?_
  refine lv_istore_n (lv' := [(1, .int 0), (0, .ref h0)]) hx hb dX2_allSignsCounted_1 rfl hl (by decide) rfl (fun ls hl => ?_)
  refine lv_iconst (v := 0) hx hb dX2_allSignsCounted_2 (by decide) ?_
  refine lv_istore_n (lv' := [(2, .int 0), (1, .int 0), (0, .ref h0)]) hx hb dX2_allSignsCounted_3 rfl hl (by decide) rfl (fun ls hl => ?_)
  have lp_4 : ∀ (k4 i : Nat) (x1 : Int32), i ≤ sz → sz + 1 ≤ i + k4 → m_X2_allSignsCounted ss ts sz = m_X2_allSignsCounted_L4 ss ts sz k4 i x1 → ∀ (ls : Array Slot), lv_has ls 3 [(0, .ref h0), (1, .int x1), (2, .int (nI i))] → W p l e (headSpec wsX2_allSignsCounted ({ frames := 2, cells := 0, slots := 0, locals := 41 } : Room)).room s m (([.ref h0] : List Value).toArray) below meth c s.heap [] 0 0 (MQ below (vp_Si (fun r => r = m_X2_allSignsCounted ss ts sz)) (([.ref h0] : List Value).toArray) s 0 0 (fun _ => False)) (F0 m 4 ls []) := by
    intro k4
    induction k4 with
    | zero => intro i x1 h1_ h2_; exfalso; omega
    | succ k4 ih4 =>
      intro i x1 hb4 hf4  hm4 ls hl
      refine lv_iload_n hx hb dX2_allSignsCounted_4 rfl (lv_at hl 2 rfl) ?_
      refine lv_aload_n hx hb dX2_allSignsCounted_5 rfl (lv_at hl 0 rfl) ?_
      refine va_get (D := (dC, dI)) (ci := 3) (v := .int (nI sz)) (C := RX2) (T := TX2) (N := 6) hx hb hts (by decide +kernel) hown hK hP 0 rfl rfl 5 (by decide) (hts (.fieldLink RX2 27 "PictureRows$Runs" "size" "I") (by decide +kernel)) (fun _ h9 => h9) rfl dX2_allSignsCounted_6 ?_
      refine lv_icmp_ge (tgt := 42) hx hb dX2_allSignsCounted_9 (by decide) (fun c_1 => ?_) (fun c_1 => ?_)
      · skip
        have c_1 : sz ≤ i := (nI_leI (a := sz) (b := i) (by omega) (by omega)).mp c_1
        refine lv_iload_n hx hb dX2_allSignsCounted_42 rfl (lv_at hl 1 rfl) ?_
        exact rd_iret (v := x1) hx hb hr hlocks (show m_X2_allSignsCounted ss ts sz = x1 from hm4.trans (by simp only [m_X2_allSignsCounted_L4, if_pos c_1])).symm dX2_allSignsCounted_43
      · skip
        have c_1 : ¬ sz ≤ i := (fun q_ => c_1 ((nI_leI (a := sz) (b := i) (by omega) (by omega)).mpr q_))
        refine lv_iload_n hx hb dX2_allSignsCounted_12 rfl (lv_at hl 2 rfl) ?_
        refine lv_bipush (v := 80) hx hb dX2_allSignsCounted_13 (by decide) ?_
        refine lv_icmp_ge (tgt := 42) hx hb dX2_allSignsCounted_15 (by decide) (fun c_2 => ?_) (fun c_2 => ?_)
        · skip
          have c_2 : 80 ≤ i := (nI_leI (a := 80) (b := i) (by omega) (by omega)).mp c_2
          exfalso; omega
        · skip
          have c_2 : ¬ 80 ≤ i := (fun q_ => c_2 ((nI_leI (a := 80) (b := i) (by omega) (by omega)).mpr q_))
          refine lv_iload_n hx hb dX2_allSignsCounted_18 rfl (lv_at hl 1 rfl) ?_
          refine lv_aload_n hx hb dX2_allSignsCounted_19 rfl (lv_at hl 0 rfl) ?_
          refine va_get (D := (dC, dI)) (ci := 3) (v := .ref h1) (C := RX2) (T := TX2) (N := 6) hx hb hts (by decide +kernel) hown hK hP 0 rfl rfl 0 (by decide) (hts (.fieldLink RX2 9 "PictureRows$Runs" "signs" "[I") (by decide +kernel)) (fun _ h9 => h9) rfl dX2_allSignsCounted_20 ?_
          refine lv_iload_n hx hb dX2_allSignsCounted_23 rfl (lv_at hl 2 rfl) ?_
          refine rd_iald hx hb hK hP 1 0 rfl rfl (i) (by omega) (by omega) dX2_allSignsCounted_24 ?_
          refine lv_aload_n hx hb dX2_allSignsCounted_25 rfl (lv_at hl 0 rfl) ?_
          refine va_get (D := (dC, dI)) (ci := 3) (v := .ref h2) (C := RX2) (T := TX2) (N := 6) hx hb hts (by decide +kernel) hown hK hP 0 rfl rfl 1 (by decide) (hts (.fieldLink RX2 15 "PictureRows$Runs" "times" "[I") (by decide +kernel)) (fun _ h9 => h9) rfl dX2_allSignsCounted_26 ?_
          refine lv_iload_n hx hb dX2_allSignsCounted_29 rfl (lv_at hl 2 rfl) ?_
          refine rd_iald hx hb hK hP 2 0 rfl rfl (i) (by omega) (by omega) dX2_allSignsCounted_30 ?_
          refine rd_callSN (As := [.int (ss i), .int (ts i)]) (rest := [.int x1]) ⟨hx, hb, hml, hown, hts⟩ hE (c_X4_signsCounted l dC dI (ss i) (ts i) ) ⟨va_cnB 2 hts gX2_allSignsCounted_X4_signsCounted_n85 rfl rfl rfl (hE.1.2 ("PictureRows$Runs", 85, yX4_signsCounted) (by decide)) (hts (.initialized RX4) (by decide +kernel)) (by decide +kernel) ⟨Nat.le_of_ble_eq_true rfl, Nat.le_of_ble_eq_true rfl⟩, hts (.static yX4_signsCounted) (by decide +kernel), trivial⟩ (hP.sub (ws' := []) [] rfl) (hK.sub [] rfl) rfl hl.1 rfl (Nat.le_of_ble_eq_true rfl) dX2_allSignsCounted_31 ⟨Nat.zero_le _, Nat.zero_le _⟩ (fun r9 hr9 => ?_)
          subst hr9
          refine lv_iadd hx hb dX2_allSignsCounted_34 ?_
          refine lv_istore_n (lv' := [(1, .int (x1 + (m_X4_signsCounted (ss i) (ts i)))), (0, .ref h0), (2, .int (nI i))]) hx hb dX2_allSignsCounted_35 rfl hl (by decide) rfl (fun ls hl => ?_)
          refine lv_iinc (v := nI (i + 1)) (lv' := [(2, .int (nI (i + 1))), (1, .int (x1 + (m_X4_signsCounted (ss i) (ts i)))), (0, .ref h0)]) hx hb dX2_allSignsCounted_36 hl (k := 2) rfl (nI_add (i) 1) (by decide) rfl (fun ls hl => ?_)
          refine lv_goto (tgt := 4) hx hb dX2_allSignsCounted_39 (by decide) ?_
          exact ih4 (i + 1) (x1 + (m_X4_signsCounted (ss i) (ts i))) (by omega) (by omega)  (hm4.trans (by simp only [m_X2_allSignsCounted_L4, if_neg c_1])) ls (lv_sub hl [2, 1, 0] rfl)
  exact lp_4 (sz + 1) (0) 0 (by omega) (by omega)  (show m_X2_allSignsCounted ss ts sz = m_X2_allSignsCounted_L4 ss ts sz (sz + 1) 0 0 from by simp only [m_X2_allSignsCounted]) ls (lv_sub hl [2, 1, 0] rfl)
end
section
theorem kind_in {k : Int32} (h : ¬ m_X4_isKind k = false) : vp_in k 19 := by
  unfold m_X4_isKind at h
  by_cases a : k < 0
  · rw [if_pos a] at h; exact absurd rfl h
  · rw [if_neg a] at h
    by_cases b : 19 ≤ k
    · rw [if_pos b] at h; exact absurd rfl h
    · exact rg_in (N := 19) (by decide) a b
def m_X2_kindOf_j12_s0 (ka : Int32) : Bool := if (ka &&& 98308) = 0 then false else true
def m_X2_kindOf (sg : Int32) (one : Bool) (ka : Int32) : Int32 := if sg = 36 then (if one = false then (10 + (bI (m_X2_kindOf_j12_s0 ka))) else 5) else (if sg = 42 then (6 + (bI (m_X2_kindOf_j12_s0 ka))) else (if sg = 43 then (if one = false then (8 + (bI (m_X2_kindOf_j12_s0 ka))) else (if ka = 0 then 3 else 4)) else (if sg = 44 then 1 else (if sg = 45 then (if one = false then (8 + (bI (m_X2_kindOf_j12_s0 ka))) else (if ka = 0 then 3 else 4)) else (if sg = 46 then 2 else (if sg = 57 then 12 else (if sg = 65 then 13 else (if sg = 67 then 4 else (if sg = 68 then 4 else (if sg = 78 then 18 else (if sg = 80 then (if (ka &&& (-114729)) = 0 then 16 else 17) else (if sg = 83 then 14 else (if sg = 86 then 15 else (if sg = 88 then 13 else (if sg = 90 then (6 + (bI (m_X2_kindOf_j12_s0 ka))) else 0)))))))))))))))
set_option maxHeartbeats 4000000 in
set_option maxRecDepth 100000 in
theorem c_X2_kindOf (l : Launch) (dC : Nat → ClassId) (dI : Nat → Nat → Nat) (sg : Int32) (one : Bool) (ka : Int32) : Met l yX2_kindOf wsX2_kindOf ({ frames := 0, cells := 0, slots := 0, locals := 0 } : Room) (va_Pc [.int sg, .int (bI one), .int ka] (rd_P (dC, dI) vwCl [] [])) (vp_Si (fun r => r = m_X2_kindOf sg one ka)) 0 0 (fun _ => False) := by
  refine Met.ofW (cc := cX2_kindOf) (maxL := 4) (ret := (some .int)) (by decide) rfl ?_
  intro p e s m args below meth c s₁ B hml hv
  obtain ⟨rfl, hE, hP, hK⟩ := hv
  have hx := B.exec
  have hb := B.bytes
  have hr := B.returns
  have hts := atoms_spec (ws := wsX2_kindOf) B.pre
  have hown : s.vm.findClass RX2 = some m.cls := findClass_of_methodNamed B.named
  have hlocks := B.notSynchronized
  have hl := lv_entry ([.int sg, .int (bI one), .int ka]) (n := 4) (Nat.le_of_ble_eq_true rfl)
  rw [lg_entry_eq]
  generalize (lg_sl ([.int sg, .int (bI one), .int ka]) ++ List.replicate (4 - (lg_sl ([.int sg, .int (bI one), .int ka])).length) Slot.unset).toArray = ls at hl ⊢
  have hl : lv_has ls 4 [(0, .int sg), (1, .int (bI one)), (2, .int ka)] := hl
  refine lv_iload_n hx hb dX2_kindOf_0 rfl (lv_at hl 2 rfl) ?_
  refine lv_ldc (v := 98308) hx hb hown (hts (.constant RX2 64 98308) (by decide +kernel)) dX2_kindOf_1 ?_
  refine lv_iand hx hb dX2_kindOf_3 ?_
  have j_1 : ∀ (y0_j_1 : Bool), y0_j_1 = m_X2_kindOf_j12_s0 ka → ∀ (ls : Array Slot), lv_has ls 4 [(0, .int sg), (1, .int (bI one)), (2, .int ka)] → W p l e (headSpec wsX2_kindOf ({ frames := 0, cells := 0, slots := 0, locals := 0 } : Room)).room s m (([.int sg, .int (bI one), .int ka] : List Value).toArray) below meth c s.heap [] 0 0 (MQ below (vp_Si (fun r => r = m_X2_kindOf sg one ka)) (([.int sg, .int (bI one), .int ka] : List Value).toArray) s 0 0 (fun _ => False)) (F0 m 12 ls [.int (bI y0_j_1)]) := by
    intro y0_j_1 ey0_j_1 ls hl
    subst ey0_j_1
    refine lv_istore_n (lv' := [(3, .int (bI (m_X2_kindOf_j12_s0 ka))), (0, .int sg), (1, .int (bI one)), (2, .int ka)]) hx hb dX2_kindOf_12 rfl hl (by decide) rfl (fun ls hl => ?_)
    refine lv_iload_n hx hb dX2_kindOf_13 rfl (lv_at hl 1 rfl) ?_
    by_cases c_2 : sg = 36
    · skip
      refine lv_tableIn (off := 259) (tgt := 273) hx hb dX2_kindOf_14 (by rw [c_2]; decide) (by rw [c_2]; decide) (by rw [c_2]; rfl) (by decide) ?_
      refine lv_iload_n hx hb dX2_kindOf_273 rfl (lv_at hl 2 rfl) ?_
      refine lv_if_eq (tgt := 281) hx hb dX2_kindOf_274 (by decide) (fun c_3 => ?_) (fun c_3 => ?_)
      · skip
        have c_3 := bI_0 c_3
        refine lv_bipush (v := 10) hx hb dX2_kindOf_281 (by decide) ?_
        refine lv_iload_n hx hb dX2_kindOf_283 rfl (lv_at hl 0 rfl) ?_
        refine lv_iadd hx hb dX2_kindOf_284 ?_
        exact rd_iret (v := 10 + (bI (m_X2_kindOf_j12_s0 ka))) hx hb hr hlocks (show m_X2_kindOf sg one ka = 10 + (bI (m_X2_kindOf_j12_s0 ka)) from by simp only [m_X2_kindOf, if_pos c_2, if_pos c_3]).symm dX2_kindOf_285
      · skip
        have c_3 := bI_n0 c_3
        refine lv_iconst (v := 5) hx hb dX2_kindOf_277 (by decide) ?_
        refine lv_goto (tgt := 285) hx hb dX2_kindOf_278 (by decide) ?_
        exact rd_iret (v := 5) hx hb hr hlocks (show m_X2_kindOf sg one ka = 5 from by simp only [m_X2_kindOf, if_pos c_2, if_neg c_3]).symm dX2_kindOf_285
    by_cases c_4 : sg = 42
    · skip
      refine lv_tableIn (off := 272) (tgt := 286) hx hb dX2_kindOf_14 (by rw [c_4]; decide) (by rw [c_4]; decide) (by rw [c_4]; rfl) (by decide) ?_
      refine lv_bipush (v := 6) hx hb dX2_kindOf_286 (by decide) ?_
      refine lv_iload_n hx hb dX2_kindOf_288 rfl (lv_at hl 0 rfl) ?_
      refine lv_iadd hx hb dX2_kindOf_289 ?_
      exact rd_iret (v := 6 + (bI (m_X2_kindOf_j12_s0 ka))) hx hb hr hlocks (show m_X2_kindOf sg one ka = 6 + (bI (m_X2_kindOf_j12_s0 ka)) from by simp only [m_X2_kindOf, if_neg c_2, if_pos c_4]).symm dX2_kindOf_290
    by_cases c_5 : sg = 43
    · skip
      refine lv_tableIn (off := 238) (tgt := 252) hx hb dX2_kindOf_14 (by rw [c_5]; decide) (by rw [c_5]; decide) (by rw [c_5]; rfl) (by decide) ?_
      refine lv_iload_n hx hb dX2_kindOf_252 rfl (lv_at hl 2 rfl) ?_
      refine lv_if_ne (tgt := 261) hx hb dX2_kindOf_253 (by decide) (fun c_6 => ?_) (fun c_6 => ?_)
      · skip
        have c_6 := bI_n0 c_6
        refine lv_iload_n hx hb dX2_kindOf_261 rfl (lv_at hl 3 rfl) ?_
        refine lv_if_ne (tgt := 269) hx hb dX2_kindOf_262 (by decide) (fun c_7 => ?_) (fun c_7 => ?_)
        · skip
          refine lv_iconst (v := 4) hx hb dX2_kindOf_269 (by decide) ?_
          exact rd_iret (v := 4) hx hb hr hlocks (show m_X2_kindOf sg one ka = 4 from by simp only [m_X2_kindOf, if_neg c_2, if_neg c_4, if_pos c_5, if_neg c_6, if_neg c_7]).symm dX2_kindOf_270
        · skip
          refine lv_iconst (v := 3) hx hb dX2_kindOf_265 (by decide) ?_
          refine lv_goto (tgt := 270) hx hb dX2_kindOf_266 (by decide) ?_
          exact rd_iret (v := 3) hx hb hr hlocks (show m_X2_kindOf sg one ka = 3 from by simp only [m_X2_kindOf, if_neg c_2, if_neg c_4, if_pos c_5, if_neg c_6, if_pos c_7]).symm dX2_kindOf_270
      · skip
        have c_6 := bI_0 c_6
        refine lv_bipush (v := 8) hx hb dX2_kindOf_256 (by decide) ?_
        refine lv_iload_n hx hb dX2_kindOf_258 rfl (lv_at hl 0 rfl) ?_
        refine lv_iadd hx hb dX2_kindOf_259 ?_
        exact rd_iret (v := 8 + (bI (m_X2_kindOf_j12_s0 ka))) hx hb hr hlocks (show m_X2_kindOf sg one ka = 8 + (bI (m_X2_kindOf_j12_s0 ka)) from by simp only [m_X2_kindOf, if_neg c_2, if_neg c_4, if_pos c_5, if_pos c_6]).symm dX2_kindOf_260
    by_cases c_8 : sg = 44
    · skip
      refine lv_tableIn (off := 234) (tgt := 248) hx hb dX2_kindOf_14 (by rw [c_8]; decide) (by rw [c_8]; decide) (by rw [c_8]; rfl) (by decide) ?_
      refine lv_iconst (v := 1) hx hb dX2_kindOf_248 (by decide) ?_
      exact rd_iret (v := 1) hx hb hr hlocks (show m_X2_kindOf sg one ka = 1 from by simp only [m_X2_kindOf, if_neg c_2, if_neg c_4, if_neg c_5, if_pos c_8]).symm dX2_kindOf_249
    by_cases c_9 : sg = 45
    · skip
      refine lv_tableIn (off := 238) (tgt := 252) hx hb dX2_kindOf_14 (by rw [c_9]; decide) (by rw [c_9]; decide) (by rw [c_9]; rfl) (by decide) ?_
      refine lv_iload_n hx hb dX2_kindOf_252 rfl (lv_at hl 2 rfl) ?_
      refine lv_if_ne (tgt := 261) hx hb dX2_kindOf_253 (by decide) (fun c_10 => ?_) (fun c_10 => ?_)
      · skip
        have c_10 := bI_n0 c_10
        refine lv_iload_n hx hb dX2_kindOf_261 rfl (lv_at hl 3 rfl) ?_
        refine lv_if_ne (tgt := 269) hx hb dX2_kindOf_262 (by decide) (fun c_11 => ?_) (fun c_11 => ?_)
        · skip
          refine lv_iconst (v := 4) hx hb dX2_kindOf_269 (by decide) ?_
          exact rd_iret (v := 4) hx hb hr hlocks (show m_X2_kindOf sg one ka = 4 from by simp only [m_X2_kindOf, if_neg c_2, if_neg c_4, if_neg c_5, if_neg c_8, if_pos c_9, if_neg c_10, if_neg c_11]).symm dX2_kindOf_270
        · skip
          refine lv_iconst (v := 3) hx hb dX2_kindOf_265 (by decide) ?_
          refine lv_goto (tgt := 270) hx hb dX2_kindOf_266 (by decide) ?_
          exact rd_iret (v := 3) hx hb hr hlocks (show m_X2_kindOf sg one ka = 3 from by simp only [m_X2_kindOf, if_neg c_2, if_neg c_4, if_neg c_5, if_neg c_8, if_pos c_9, if_neg c_10, if_pos c_11]).symm dX2_kindOf_270
      · skip
        have c_10 := bI_0 c_10
        refine lv_bipush (v := 8) hx hb dX2_kindOf_256 (by decide) ?_
        refine lv_iload_n hx hb dX2_kindOf_258 rfl (lv_at hl 0 rfl) ?_
        refine lv_iadd hx hb dX2_kindOf_259 ?_
        exact rd_iret (v := 8 + (bI (m_X2_kindOf_j12_s0 ka))) hx hb hr hlocks (show m_X2_kindOf sg one ka = 8 + (bI (m_X2_kindOf_j12_s0 ka)) from by simp only [m_X2_kindOf, if_neg c_2, if_neg c_4, if_neg c_5, if_neg c_8, if_pos c_9, if_pos c_10]).symm dX2_kindOf_260
    by_cases c_12 : sg = 46
    · skip
      refine lv_tableIn (off := 236) (tgt := 250) hx hb dX2_kindOf_14 (by rw [c_12]; decide) (by rw [c_12]; decide) (by rw [c_12]; rfl) (by decide) ?_
      refine lv_iconst (v := 2) hx hb dX2_kindOf_250 (by decide) ?_
      exact rd_iret (v := 2) hx hb hr hlocks (show m_X2_kindOf sg one ka = 2 from by simp only [m_X2_kindOf, if_neg c_2, if_neg c_4, if_neg c_5, if_neg c_8, if_neg c_9, if_pos c_12]).symm dX2_kindOf_251
    by_cases c_13 : sg = 57
    · skip
      refine lv_tableIn (off := 277) (tgt := 291) hx hb dX2_kindOf_14 (by rw [c_13]; decide) (by rw [c_13]; decide) (by rw [c_13]; rfl) (by decide) ?_
      refine lv_bipush (v := 12) hx hb dX2_kindOf_291 (by decide) ?_
      exact rd_iret (v := 12) hx hb hr hlocks (show m_X2_kindOf sg one ka = 12 from by simp only [m_X2_kindOf, if_neg c_2, if_neg c_4, if_neg c_5, if_neg c_8, if_neg c_9, if_neg c_12, if_pos c_13]).symm dX2_kindOf_293
    by_cases c_14 : sg = 65
    · skip
      refine lv_tableIn (off := 280) (tgt := 294) hx hb dX2_kindOf_14 (by rw [c_14]; decide) (by rw [c_14]; decide) (by rw [c_14]; rfl) (by decide) ?_
      refine lv_bipush (v := 13) hx hb dX2_kindOf_294 (by decide) ?_
      exact rd_iret (v := 13) hx hb hr hlocks (show m_X2_kindOf sg one ka = 13 from by simp only [m_X2_kindOf, if_neg c_2, if_neg c_4, if_neg c_5, if_neg c_8, if_neg c_9, if_neg c_12, if_neg c_13, if_pos c_14]).symm dX2_kindOf_296
    by_cases c_15 : sg = 67
    · skip
      refine lv_tableIn (off := 257) (tgt := 271) hx hb dX2_kindOf_14 (by rw [c_15]; decide) (by rw [c_15]; decide) (by rw [c_15]; rfl) (by decide) ?_
      refine lv_iconst (v := 4) hx hb dX2_kindOf_271 (by decide) ?_
      exact rd_iret (v := 4) hx hb hr hlocks (show m_X2_kindOf sg one ka = 4 from by simp only [m_X2_kindOf, if_neg c_2, if_neg c_4, if_neg c_5, if_neg c_8, if_neg c_9, if_neg c_12, if_neg c_13, if_neg c_14, if_pos c_15]).symm dX2_kindOf_272
    by_cases c_16 : sg = 68
    · skip
      refine lv_tableIn (off := 257) (tgt := 271) hx hb dX2_kindOf_14 (by rw [c_16]; decide) (by rw [c_16]; decide) (by rw [c_16]; rfl) (by decide) ?_
      refine lv_iconst (v := 4) hx hb dX2_kindOf_271 (by decide) ?_
      exact rd_iret (v := 4) hx hb hr hlocks (show m_X2_kindOf sg one ka = 4 from by simp only [m_X2_kindOf, if_neg c_2, if_neg c_4, if_neg c_5, if_neg c_8, if_neg c_9, if_neg c_12, if_neg c_13, if_neg c_14, if_neg c_15, if_pos c_16]).symm dX2_kindOf_272
    by_cases c_17 : sg = 78
    · skip
      refine lv_tableIn (off := 304) (tgt := 318) hx hb dX2_kindOf_14 (by rw [c_17]; decide) (by rw [c_17]; decide) (by rw [c_17]; rfl) (by decide) ?_
      refine lv_bipush (v := 18) hx hb dX2_kindOf_318 (by decide) ?_
      exact rd_iret (v := 18) hx hb hr hlocks (show m_X2_kindOf sg one ka = 18 from by simp only [m_X2_kindOf, if_neg c_2, if_neg c_4, if_neg c_5, if_neg c_8, if_neg c_9, if_neg c_12, if_neg c_13, if_neg c_14, if_neg c_15, if_neg c_16, if_pos c_17]).symm dX2_kindOf_320
    by_cases c_18 : sg = 80
    · skip
      refine lv_tableIn (off := 289) (tgt := 303) hx hb dX2_kindOf_14 (by rw [c_18]; decide) (by rw [c_18]; decide) (by rw [c_18]; rfl) (by decide) ?_
      refine lv_iload_n hx hb dX2_kindOf_303 rfl (lv_at hl 3 rfl) ?_
      refine lv_ldc (v := (-114729)) hx hb hown (hts (.constant RX2 65 (-114729)) (by decide +kernel)) dX2_kindOf_304 ?_
      refine lv_iand hx hb dX2_kindOf_306 ?_
      refine lv_if_ne (tgt := 315) hx hb dX2_kindOf_307 (by decide) (fun c_19 => ?_) (fun c_19 => ?_)
      · skip
        refine lv_bipush (v := 17) hx hb dX2_kindOf_315 (by decide) ?_
        exact rd_iret (v := 17) hx hb hr hlocks (show m_X2_kindOf sg one ka = 17 from by simp only [m_X2_kindOf, if_neg c_2, if_neg c_4, if_neg c_5, if_neg c_8, if_neg c_9, if_neg c_12, if_neg c_13, if_neg c_14, if_neg c_15, if_neg c_16, if_neg c_17, if_pos c_18, if_neg c_19]).symm dX2_kindOf_317
      · skip
        refine lv_bipush (v := 16) hx hb dX2_kindOf_310 (by decide) ?_
        refine lv_goto (tgt := 317) hx hb dX2_kindOf_312 (by decide) ?_
        exact rd_iret (v := 16) hx hb hr hlocks (show m_X2_kindOf sg one ka = 16 from by simp only [m_X2_kindOf, if_neg c_2, if_neg c_4, if_neg c_5, if_neg c_8, if_neg c_9, if_neg c_12, if_neg c_13, if_neg c_14, if_neg c_15, if_neg c_16, if_neg c_17, if_pos c_18, if_pos c_19]).symm dX2_kindOf_317
    by_cases c_20 : sg = 83
    · skip
      refine lv_tableIn (off := 283) (tgt := 297) hx hb dX2_kindOf_14 (by rw [c_20]; decide) (by rw [c_20]; decide) (by rw [c_20]; rfl) (by decide) ?_
      refine lv_bipush (v := 14) hx hb dX2_kindOf_297 (by decide) ?_
      exact rd_iret (v := 14) hx hb hr hlocks (show m_X2_kindOf sg one ka = 14 from by simp only [m_X2_kindOf, if_neg c_2, if_neg c_4, if_neg c_5, if_neg c_8, if_neg c_9, if_neg c_12, if_neg c_13, if_neg c_14, if_neg c_15, if_neg c_16, if_neg c_17, if_neg c_18, if_pos c_20]).symm dX2_kindOf_299
    by_cases c_21 : sg = 86
    · skip
      refine lv_tableIn (off := 286) (tgt := 300) hx hb dX2_kindOf_14 (by rw [c_21]; decide) (by rw [c_21]; decide) (by rw [c_21]; rfl) (by decide) ?_
      refine lv_bipush (v := 15) hx hb dX2_kindOf_300 (by decide) ?_
      exact rd_iret (v := 15) hx hb hr hlocks (show m_X2_kindOf sg one ka = 15 from by simp only [m_X2_kindOf, if_neg c_2, if_neg c_4, if_neg c_5, if_neg c_8, if_neg c_9, if_neg c_12, if_neg c_13, if_neg c_14, if_neg c_15, if_neg c_16, if_neg c_17, if_neg c_18, if_neg c_20, if_pos c_21]).symm dX2_kindOf_302
    by_cases c_22 : sg = 88
    · skip
      refine lv_tableIn (off := 280) (tgt := 294) hx hb dX2_kindOf_14 (by rw [c_22]; decide) (by rw [c_22]; decide) (by rw [c_22]; rfl) (by decide) ?_
      refine lv_bipush (v := 13) hx hb dX2_kindOf_294 (by decide) ?_
      exact rd_iret (v := 13) hx hb hr hlocks (show m_X2_kindOf sg one ka = 13 from by simp only [m_X2_kindOf, if_neg c_2, if_neg c_4, if_neg c_5, if_neg c_8, if_neg c_9, if_neg c_12, if_neg c_13, if_neg c_14, if_neg c_15, if_neg c_16, if_neg c_17, if_neg c_18, if_neg c_20, if_neg c_21, if_pos c_22]).symm dX2_kindOf_296
    by_cases c_23 : sg = 90
    · skip
      refine lv_tableIn (off := 272) (tgt := 286) hx hb dX2_kindOf_14 (by rw [c_23]; decide) (by rw [c_23]; decide) (by rw [c_23]; rfl) (by decide) ?_
      refine lv_bipush (v := 6) hx hb dX2_kindOf_286 (by decide) ?_
      refine lv_iload_n hx hb dX2_kindOf_288 rfl (lv_at hl 0 rfl) ?_
      refine lv_iadd hx hb dX2_kindOf_289 ?_
      exact rd_iret (v := 6 + (bI (m_X2_kindOf_j12_s0 ka))) hx hb hr hlocks (show m_X2_kindOf sg one ka = 6 + (bI (m_X2_kindOf_j12_s0 ka)) from by simp only [m_X2_kindOf, if_neg c_2, if_neg c_4, if_neg c_5, if_neg c_8, if_neg c_9, if_neg c_12, if_neg c_13, if_neg c_14, if_neg c_15, if_neg c_16, if_neg c_17, if_neg c_18, if_neg c_20, if_neg c_21, if_neg c_22, if_pos c_23]).symm dX2_kindOf_290
    have w_24 : ∀ ls, lv_has ls 4 [(3, .int (bI (m_X2_kindOf_j12_s0 ka))), (0, .int sg), (1, .int (bI one)), (2, .int ka)] → W p l e (headSpec wsX2_kindOf ({ frames := 0, cells := 0, slots := 0, locals := 0 } : Room)).room s m (([.int sg, .int (bI one), .int ka] : List Value).toArray) below meth c s.heap [] 0 0 (MQ below (vp_Si (fun r => r = m_X2_kindOf sg one ka)) (([.int sg, .int (bI one), .int ka] : List Value).toArray) s 0 0 (fun _ => False)) (F0 m 321 ls []) := by
      intro ls hl
      refine lv_iconst (v := 0) hx hb dX2_kindOf_321 (by decide) ?_
      exact rd_iret (v := 0) hx hb hr hlocks (show m_X2_kindOf sg one ka = 0 from by simp only [m_X2_kindOf, if_neg c_2, if_neg c_4, if_neg c_5, if_neg c_8, if_neg c_9, if_neg c_12, if_neg c_13, if_neg c_14, if_neg c_15, if_neg c_16, if_neg c_17, if_neg c_18, if_neg c_20, if_neg c_21, if_neg c_22, if_neg c_23]).symm dX2_kindOf_322
    by_cases c_25 : sg = 37
    · skip
      exact lv_tableIn (off := 307) (tgt := 321) hx hb dX2_kindOf_14 (by rw [c_25]; decide) (by rw [c_25]; decide) (by rw [c_25]; rfl) (by decide) (w_24 ls hl)
    by_cases c_26 : sg = 38
    · skip
      exact lv_tableIn (off := 307) (tgt := 321) hx hb dX2_kindOf_14 (by rw [c_26]; decide) (by rw [c_26]; decide) (by rw [c_26]; rfl) (by decide) (w_24 ls hl)
    by_cases c_27 : sg = 39
    · skip
      exact lv_tableIn (off := 307) (tgt := 321) hx hb dX2_kindOf_14 (by rw [c_27]; decide) (by rw [c_27]; decide) (by rw [c_27]; rfl) (by decide) (w_24 ls hl)
    by_cases c_28 : sg = 40
    · skip
      exact lv_tableIn (off := 307) (tgt := 321) hx hb dX2_kindOf_14 (by rw [c_28]; decide) (by rw [c_28]; decide) (by rw [c_28]; rfl) (by decide) (w_24 ls hl)
    by_cases c_29 : sg = 41
    · skip
      exact lv_tableIn (off := 307) (tgt := 321) hx hb dX2_kindOf_14 (by rw [c_29]; decide) (by rw [c_29]; decide) (by rw [c_29]; rfl) (by decide) (w_24 ls hl)
    by_cases c_30 : sg = 47
    · skip
      exact lv_tableIn (off := 307) (tgt := 321) hx hb dX2_kindOf_14 (by rw [c_30]; decide) (by rw [c_30]; decide) (by rw [c_30]; rfl) (by decide) (w_24 ls hl)
    by_cases c_31 : sg = 48
    · skip
      exact lv_tableIn (off := 307) (tgt := 321) hx hb dX2_kindOf_14 (by rw [c_31]; decide) (by rw [c_31]; decide) (by rw [c_31]; rfl) (by decide) (w_24 ls hl)
    by_cases c_32 : sg = 49
    · skip
      exact lv_tableIn (off := 307) (tgt := 321) hx hb dX2_kindOf_14 (by rw [c_32]; decide) (by rw [c_32]; decide) (by rw [c_32]; rfl) (by decide) (w_24 ls hl)
    by_cases c_33 : sg = 50
    · skip
      exact lv_tableIn (off := 307) (tgt := 321) hx hb dX2_kindOf_14 (by rw [c_33]; decide) (by rw [c_33]; decide) (by rw [c_33]; rfl) (by decide) (w_24 ls hl)
    by_cases c_34 : sg = 51
    · skip
      exact lv_tableIn (off := 307) (tgt := 321) hx hb dX2_kindOf_14 (by rw [c_34]; decide) (by rw [c_34]; decide) (by rw [c_34]; rfl) (by decide) (w_24 ls hl)
    by_cases c_35 : sg = 52
    · skip
      exact lv_tableIn (off := 307) (tgt := 321) hx hb dX2_kindOf_14 (by rw [c_35]; decide) (by rw [c_35]; decide) (by rw [c_35]; rfl) (by decide) (w_24 ls hl)
    by_cases c_36 : sg = 53
    · skip
      exact lv_tableIn (off := 307) (tgt := 321) hx hb dX2_kindOf_14 (by rw [c_36]; decide) (by rw [c_36]; decide) (by rw [c_36]; rfl) (by decide) (w_24 ls hl)
    by_cases c_37 : sg = 54
    · skip
      exact lv_tableIn (off := 307) (tgt := 321) hx hb dX2_kindOf_14 (by rw [c_37]; decide) (by rw [c_37]; decide) (by rw [c_37]; rfl) (by decide) (w_24 ls hl)
    by_cases c_38 : sg = 55
    · skip
      exact lv_tableIn (off := 307) (tgt := 321) hx hb dX2_kindOf_14 (by rw [c_38]; decide) (by rw [c_38]; decide) (by rw [c_38]; rfl) (by decide) (w_24 ls hl)
    by_cases c_39 : sg = 56
    · skip
      exact lv_tableIn (off := 307) (tgt := 321) hx hb dX2_kindOf_14 (by rw [c_39]; decide) (by rw [c_39]; decide) (by rw [c_39]; rfl) (by decide) (w_24 ls hl)
    by_cases c_40 : sg = 58
    · skip
      exact lv_tableIn (off := 307) (tgt := 321) hx hb dX2_kindOf_14 (by rw [c_40]; decide) (by rw [c_40]; decide) (by rw [c_40]; rfl) (by decide) (w_24 ls hl)
    by_cases c_41 : sg = 59
    · skip
      exact lv_tableIn (off := 307) (tgt := 321) hx hb dX2_kindOf_14 (by rw [c_41]; decide) (by rw [c_41]; decide) (by rw [c_41]; rfl) (by decide) (w_24 ls hl)
    by_cases c_42 : sg = 60
    · skip
      exact lv_tableIn (off := 307) (tgt := 321) hx hb dX2_kindOf_14 (by rw [c_42]; decide) (by rw [c_42]; decide) (by rw [c_42]; rfl) (by decide) (w_24 ls hl)
    by_cases c_43 : sg = 61
    · skip
      exact lv_tableIn (off := 307) (tgt := 321) hx hb dX2_kindOf_14 (by rw [c_43]; decide) (by rw [c_43]; decide) (by rw [c_43]; rfl) (by decide) (w_24 ls hl)
    by_cases c_44 : sg = 62
    · skip
      exact lv_tableIn (off := 307) (tgt := 321) hx hb dX2_kindOf_14 (by rw [c_44]; decide) (by rw [c_44]; decide) (by rw [c_44]; rfl) (by decide) (w_24 ls hl)
    by_cases c_45 : sg = 63
    · skip
      exact lv_tableIn (off := 307) (tgt := 321) hx hb dX2_kindOf_14 (by rw [c_45]; decide) (by rw [c_45]; decide) (by rw [c_45]; rfl) (by decide) (w_24 ls hl)
    by_cases c_46 : sg = 64
    · skip
      exact lv_tableIn (off := 307) (tgt := 321) hx hb dX2_kindOf_14 (by rw [c_46]; decide) (by rw [c_46]; decide) (by rw [c_46]; rfl) (by decide) (w_24 ls hl)
    by_cases c_47 : sg = 66
    · skip
      exact lv_tableIn (off := 307) (tgt := 321) hx hb dX2_kindOf_14 (by rw [c_47]; decide) (by rw [c_47]; decide) (by rw [c_47]; rfl) (by decide) (w_24 ls hl)
    by_cases c_48 : sg = 69
    · skip
      exact lv_tableIn (off := 307) (tgt := 321) hx hb dX2_kindOf_14 (by rw [c_48]; decide) (by rw [c_48]; decide) (by rw [c_48]; rfl) (by decide) (w_24 ls hl)
    by_cases c_49 : sg = 70
    · skip
      exact lv_tableIn (off := 307) (tgt := 321) hx hb dX2_kindOf_14 (by rw [c_49]; decide) (by rw [c_49]; decide) (by rw [c_49]; rfl) (by decide) (w_24 ls hl)
    by_cases c_50 : sg = 71
    · skip
      exact lv_tableIn (off := 307) (tgt := 321) hx hb dX2_kindOf_14 (by rw [c_50]; decide) (by rw [c_50]; decide) (by rw [c_50]; rfl) (by decide) (w_24 ls hl)
    by_cases c_51 : sg = 72
    · skip
      exact lv_tableIn (off := 307) (tgt := 321) hx hb dX2_kindOf_14 (by rw [c_51]; decide) (by rw [c_51]; decide) (by rw [c_51]; rfl) (by decide) (w_24 ls hl)
    by_cases c_52 : sg = 73
    · skip
      exact lv_tableIn (off := 307) (tgt := 321) hx hb dX2_kindOf_14 (by rw [c_52]; decide) (by rw [c_52]; decide) (by rw [c_52]; rfl) (by decide) (w_24 ls hl)
    by_cases c_53 : sg = 74
    · skip
      exact lv_tableIn (off := 307) (tgt := 321) hx hb dX2_kindOf_14 (by rw [c_53]; decide) (by rw [c_53]; decide) (by rw [c_53]; rfl) (by decide) (w_24 ls hl)
    by_cases c_54 : sg = 75
    · skip
      exact lv_tableIn (off := 307) (tgt := 321) hx hb dX2_kindOf_14 (by rw [c_54]; decide) (by rw [c_54]; decide) (by rw [c_54]; rfl) (by decide) (w_24 ls hl)
    by_cases c_55 : sg = 76
    · skip
      exact lv_tableIn (off := 307) (tgt := 321) hx hb dX2_kindOf_14 (by rw [c_55]; decide) (by rw [c_55]; decide) (by rw [c_55]; rfl) (by decide) (w_24 ls hl)
    by_cases c_56 : sg = 77
    · skip
      exact lv_tableIn (off := 307) (tgt := 321) hx hb dX2_kindOf_14 (by rw [c_56]; decide) (by rw [c_56]; decide) (by rw [c_56]; rfl) (by decide) (w_24 ls hl)
    by_cases c_57 : sg = 79
    · skip
      exact lv_tableIn (off := 307) (tgt := 321) hx hb dX2_kindOf_14 (by rw [c_57]; decide) (by rw [c_57]; decide) (by rw [c_57]; rfl) (by decide) (w_24 ls hl)
    by_cases c_58 : sg = 81
    · skip
      exact lv_tableIn (off := 307) (tgt := 321) hx hb dX2_kindOf_14 (by rw [c_58]; decide) (by rw [c_58]; decide) (by rw [c_58]; rfl) (by decide) (w_24 ls hl)
    by_cases c_59 : sg = 82
    · skip
      exact lv_tableIn (off := 307) (tgt := 321) hx hb dX2_kindOf_14 (by rw [c_59]; decide) (by rw [c_59]; decide) (by rw [c_59]; rfl) (by decide) (w_24 ls hl)
    by_cases c_60 : sg = 84
    · skip
      exact lv_tableIn (off := 307) (tgt := 321) hx hb dX2_kindOf_14 (by rw [c_60]; decide) (by rw [c_60]; decide) (by rw [c_60]; rfl) (by decide) (w_24 ls hl)
    by_cases c_61 : sg = 85
    · skip
      exact lv_tableIn (off := 307) (tgt := 321) hx hb dX2_kindOf_14 (by rw [c_61]; decide) (by rw [c_61]; decide) (by rw [c_61]; rfl) (by decide) (w_24 ls hl)
    by_cases c_62 : sg = 87
    · skip
      exact lv_tableIn (off := 307) (tgt := 321) hx hb dX2_kindOf_14 (by rw [c_62]; decide) (by rw [c_62]; decide) (by rw [c_62]; rfl) (by decide) (w_24 ls hl)
    by_cases c_63 : sg = 89
    · skip
      exact lv_tableIn (off := 307) (tgt := 321) hx hb dX2_kindOf_14 (by rw [c_63]; decide) (by rw [c_63]; decide) (by rw [c_63]; rfl) (by decide) (w_24 ls hl)
    exact lv_tableOut (tgt := 321) hx hb dX2_kindOf_14 (by have n0_ := lv_neT (a := 36) c_2 (by decide); have n1_ := lv_neT (a := 42) c_4 (by decide); have n2_ := lv_neT (a := 43) c_5 (by decide); have n3_ := lv_neT (a := 44) c_8 (by decide); have n4_ := lv_neT (a := 45) c_9 (by decide); have n5_ := lv_neT (a := 46) c_12 (by decide); have n6_ := lv_neT (a := 57) c_13 (by decide); have n7_ := lv_neT (a := 65) c_14 (by decide); have n8_ := lv_neT (a := 67) c_15 (by decide); have n9_ := lv_neT (a := 68) c_16 (by decide); have n10_ := lv_neT (a := 78) c_17 (by decide); have n11_ := lv_neT (a := 80) c_18 (by decide); have n12_ := lv_neT (a := 83) c_20 (by decide); have n13_ := lv_neT (a := 86) c_21 (by decide); have n14_ := lv_neT (a := 88) c_22 (by decide); have n15_ := lv_neT (a := 90) c_23 (by decide); have n16_ := lv_neT (a := 37) c_25 (by decide); have n17_ := lv_neT (a := 38) c_26 (by decide); have n18_ := lv_neT (a := 39) c_27 (by decide); have n19_ := lv_neT (a := 40) c_28 (by decide); have n20_ := lv_neT (a := 41) c_29 (by decide); have n21_ := lv_neT (a := 47) c_30 (by decide); have n22_ := lv_neT (a := 48) c_31 (by decide); have n23_ := lv_neT (a := 49) c_32 (by decide); have n24_ := lv_neT (a := 50) c_33 (by decide); have n25_ := lv_neT (a := 51) c_34 (by decide); have n26_ := lv_neT (a := 52) c_35 (by decide); have n27_ := lv_neT (a := 53) c_36 (by decide); have n28_ := lv_neT (a := 54) c_37 (by decide); have n29_ := lv_neT (a := 55) c_38 (by decide); have n30_ := lv_neT (a := 56) c_39 (by decide); have n31_ := lv_neT (a := 58) c_40 (by decide); have n32_ := lv_neT (a := 59) c_41 (by decide); have n33_ := lv_neT (a := 60) c_42 (by decide); have n34_ := lv_neT (a := 61) c_43 (by decide); have n35_ := lv_neT (a := 62) c_44 (by decide); have n36_ := lv_neT (a := 63) c_45 (by decide); have n37_ := lv_neT (a := 64) c_46 (by decide); have n38_ := lv_neT (a := 66) c_47 (by decide); have n39_ := lv_neT (a := 69) c_48 (by decide); have n40_ := lv_neT (a := 70) c_49 (by decide); have n41_ := lv_neT (a := 71) c_50 (by decide); have n42_ := lv_neT (a := 72) c_51 (by decide); have n43_ := lv_neT (a := 73) c_52 (by decide); have n44_ := lv_neT (a := 74) c_53 (by decide); have n45_ := lv_neT (a := 75) c_54 (by decide); have n46_ := lv_neT (a := 76) c_55 (by decide); have n47_ := lv_neT (a := 77) c_56 (by decide); have n48_ := lv_neT (a := 79) c_57 (by decide); have n49_ := lv_neT (a := 81) c_58 (by decide); have n50_ := lv_neT (a := 82) c_59 (by decide); have n51_ := lv_neT (a := 84) c_60 (by decide); have n52_ := lv_neT (a := 85) c_61 (by decide); have n53_ := lv_neT (a := 87) c_62 (by decide); have n54_ := lv_neT (a := 89) c_63 (by decide); omega) (by decide) (w_24 ls hl)
  refine lv_if_ne (tgt := 11) hx hb dX2_kindOf_4 (by decide) (fun c_64 => ?_) (fun c_64 => ?_)
  · skip
    refine lv_iconst (v := 1) hx hb dX2_kindOf_11 (by decide) ?_
    exact j_1 true (by simp only [m_X2_kindOf_j12_s0, if_neg c_64]) ls (lv_sub hl [0, 1, 2] rfl)
  · skip
    refine lv_iconst (v := 0) hx hb dX2_kindOf_7 (by decide) ?_
    refine lv_goto (tgt := 12) hx hb dX2_kindOf_8 (by decide) ?_
    exact j_1 false (by simp only [m_X2_kindOf_j12_s0, if_pos c_64]) ls (lv_sub hl [0, 1, 2] rfl)
def m_X2_hasRivalAhead (ss : Nat → Int32) (ks : Nat → Int32) (i : Nat) : Bool := if (ss i) = 42 then (m_X2_standsAhead ss 90 i) else (if (ss i) = 43 then (if (m_X4_holds 3840 (ks i)) = false then false else (if (m_X2_standsAhead ss 45 i) = false then false else true)) else (if (ss i) = 45 then (if (m_X4_holds 3840 (ks i)) = false then false else (if (m_X2_standsAhead ss 43 i) = false then false else true)) else (if (ss i) = 90 then (m_X2_standsAhead ss 42 i) else false)))
set_option maxHeartbeats 4000000 in
set_option maxRecDepth 100000 in
theorem c_X2_hasRivalAhead (l : Launch) (dC : Nat → ClassId) (dI : Nat → Nat → Nat) (h0 : Nat) (h1 : Nat) (h2 : Nat) (h3 : Nat) (h4 : Nat) (h5 : Nat) (cA : ClassId) (sz : Nat) (ss : Nat → Int32) (ks : Nat → Int32) (i : Nat) (hsz : sz ≤ 80) (hi : i < 80) : Met l yX2_hasRivalAhead wsX2_hasRivalAhead ({ frames := 1, cells := 0, slots := 0, locals := 23 } : Room) (va_Pc [.ref h0, .int (nI i)] (rd_P (dC, dI) vwCl [(h0, .inr (3, [.ref h1, .ref h2, .ref h3, .ref h4, .ref h5, .int (nI sz)])), (h1, .inl (cA, 80, .inl ss)), (h4, .inl (cA, 80, .inl ks))] [(cA, .int)])) (vp_Si (fun r => r = bI (m_X2_hasRivalAhead ss ks i))) 0 0 (fun _ => False) := by
  refine Met.ofW (cc := cX2_hasRivalAhead) (maxL := 2) (ret := (some .boolean)) (by decide) rfl ?_
  intro p e s m args below meth c s₁ B hml hv
  obtain ⟨rfl, hE, hP, hK⟩ := hv
  have hx := B.exec
  have hb := B.bytes
  have hr := B.returns
  have hts := atoms_spec (ws := wsX2_hasRivalAhead) B.pre
  have hown : s.vm.findClass RX2 = some m.cls := findClass_of_methodNamed B.named
  have hlocks := B.notSynchronized
  have hl := lv_entry ([.ref h0, .int (nI i)]) (n := 2) (Nat.le_of_ble_eq_true rfl)
  rw [lg_entry_eq]
  generalize (lg_sl ([.ref h0, .int (nI i)]) ++ List.replicate (2 - (lg_sl ([.ref h0, .int (nI i)])).length) Slot.unset).toArray = ls at hl ⊢
  have hl : lv_has ls 2 [(0, .ref h0), (1, .int (nI i))] := hl
  refine lv_iload_n hx hb dX2_hasRivalAhead_0 rfl (lv_at hl 1 rfl) ?_
  refine lv_if_lt (tgt := 10) hx hb dX2_hasRivalAhead_1 (by decide) (fun c_1 => ?_) (fun c_1 => ?_)
  · skip
    have c_1 : i < 0 := (nI_ltI (a := i) (b := 0) (by omega) (by omega)).mp c_1
    exfalso; omega
  · skip
    have c_1 : ¬ i < 0 := (fun q_ => c_1 ((nI_ltI (a := i) (b := 0) (by omega) (by omega)).mpr q_))
    refine lv_iload_n hx hb dX2_hasRivalAhead_4 rfl (lv_at hl 1 rfl) ?_
    refine lv_bipush (v := 80) hx hb dX2_hasRivalAhead_5 (by decide) ?_
    refine lv_icmp_lt (tgt := 12) hx hb dX2_hasRivalAhead_7 (by decide) (fun c_2 => ?_) (fun c_2 => ?_)
    · skip
      have c_2 : i < 80 := (nI_ltI (a := i) (b := 80) (by omega) (by omega)).mp c_2
      refine lv_aload_n hx hb dX2_hasRivalAhead_12 rfl (lv_at hl 0 rfl) ?_
      refine va_get (D := (dC, dI)) (ci := 3) (v := .ref h1) (C := RX2) (T := TX2) (N := 6) hx hb hts (by decide +kernel) hown hK hP 0 rfl rfl 0 (by decide) (hts (.fieldLink RX2 9 "PictureRows$Runs" "signs" "[I") (by decide +kernel)) (fun _ h9 => h9) rfl dX2_hasRivalAhead_13 ?_
      refine lv_iload_n hx hb dX2_hasRivalAhead_16 rfl (lv_at hl 1 rfl) ?_
      refine rd_iald hx hb hK hP 1 0 rfl rfl (i) (by omega) (by omega) dX2_hasRivalAhead_17 ?_
      by_cases c_3 : (ss i) = 42
      · skip
        refine lv_lookup (off := 50) (tgt := 68) hx hb dX2_hasRivalAhead_18 (by decide) (by rw [c_3]; decide) (by decide) ?_
        refine lv_aload_n hx hb dX2_hasRivalAhead_68 rfl (lv_at hl 0 rfl) ?_
        refine lv_bipush (v := 90) hx hb dX2_hasRivalAhead_69 (by decide) ?_
        refine lv_iload_n hx hb dX2_hasRivalAhead_71 rfl (lv_at hl 1 rfl) ?_
        refine rd_callV (As := [.int 90, .int (nI i)]) (rest := []) ⟨hx, hb, hml, hown, hts⟩ hE (c_X2_standsAhead l dC dI h0 h1 h2 h3 h4 h5 cA sz ss 90 i (by omega) (by omega)) (cwV 2 hts gX2_hasRivalAhead_X2_standsAhead rfl rfl rfl (by decide +kernel) ⟨Nat.le_of_ble_eq_true rfl, Nat.le_of_ble_eq_true rfl⟩) (hP.sub (ws' := [(h0, .inr (3, [.ref h1, .ref h2, .ref h3, .ref h4, .ref h5, .int (nI sz)])), (h1, .inl (cA, 80, .inl ss))]) [0, 1] rfl) (hK.sub [0] rfl) (va_recv hK hP (ci := 3) (q0 := 0) rfl rfl) rfl hl.1 rfl (Nat.le_of_ble_eq_true rfl) dX2_hasRivalAhead_72 ⟨Nat.zero_le _, Nat.zero_le _⟩ (fun r9 hr9 => ?_)
        subst hr9
        exact rd_zret (v := bI (m_X2_standsAhead ss 90 i)) hx hb hr hlocks (bI_nar _) (by rw [(show m_X2_hasRivalAhead ss ks i = m_X2_standsAhead ss 90 i from by simp only [m_X2_hasRivalAhead, if_pos c_3])]) dX2_hasRivalAhead_75
      by_cases c_4 : (ss i) = 43
      · skip
        refine lv_lookup (off := 58) (tgt := 76) hx hb dX2_hasRivalAhead_18 (by decide) (by rw [c_4]; decide) (by decide) ?_
        refine lv_sipush (v := 3840) hx hb dX2_hasRivalAhead_76 (by decide) ?_
        refine lv_aload_n hx hb dX2_hasRivalAhead_79 rfl (lv_at hl 0 rfl) ?_
        refine va_get (D := (dC, dI)) (ci := 3) (v := .ref h4) (C := RX2) (T := TX2) (N := 6) hx hb hts (by decide +kernel) hown hK hP 0 rfl rfl 3 (by decide) (hts (.fieldLink RX2 21 "PictureRows$Runs" "kinds" "[I") (by decide +kernel)) (fun _ h9 => h9) rfl dX2_hasRivalAhead_80 ?_
        refine lv_iload_n hx hb dX2_hasRivalAhead_83 rfl (lv_at hl 1 rfl) ?_
        refine rd_iald hx hb hK hP 2 0 rfl rfl (i) (by omega) (by omega) dX2_hasRivalAhead_84 ?_
        refine rd_callSN (As := [.int 3840, .int (ks i)]) (rest := []) ⟨hx, hb, hml, hown, hts⟩ hE (c_X4_holds l dC dI 3840 (ks i) ) ⟨va_cnB 2 hts gX2_hasRivalAhead_X4_holds_n67 rfl rfl rfl (hE.1.2 ("PictureRows$Runs", 67, yX4_holds) (by decide)) (hts (.initialized RX4) (by decide +kernel)) (by decide +kernel) ⟨Nat.le_of_ble_eq_true rfl, Nat.le_of_ble_eq_true rfl⟩, hts (.static yX4_holds) (by decide +kernel), trivial⟩ (hP.sub (ws' := []) [] rfl) (hK.sub [] rfl) rfl hl.1 rfl (Nat.le_of_ble_eq_true rfl) dX2_hasRivalAhead_85 ⟨Nat.zero_le _, Nat.zero_le _⟩ (fun r9 hr9 => ?_)
        subst hr9
        refine lv_if_eq (tgt := 105) hx hb dX2_hasRivalAhead_88 (by decide) (fun c_5 => ?_) (fun c_5 => ?_)
        · skip
          have c_5 := bI_0 c_5
          refine lv_iconst (v := 0) hx hb dX2_hasRivalAhead_105 (by decide) ?_
          exact rd_zret (v := 0) hx hb hr hlocks rfl (by rw [(show m_X2_hasRivalAhead ss ks i = false from by simp only [m_X2_hasRivalAhead, if_neg c_3, if_pos c_4, if_pos c_5])]; rfl) dX2_hasRivalAhead_106
        · skip
          have c_5 := bI_n0 c_5
          refine lv_aload_n hx hb dX2_hasRivalAhead_91 rfl (lv_at hl 0 rfl) ?_
          refine lv_bipush (v := 45) hx hb dX2_hasRivalAhead_92 (by decide) ?_
          refine lv_iload_n hx hb dX2_hasRivalAhead_94 rfl (lv_at hl 1 rfl) ?_
          refine rd_callV (As := [.int 45, .int (nI i)]) (rest := []) ⟨hx, hb, hml, hown, hts⟩ hE (c_X2_standsAhead l dC dI h0 h1 h2 h3 h4 h5 cA sz ss 45 i (by omega) (by omega)) (cwV 2 hts gX2_hasRivalAhead_X2_standsAhead rfl rfl rfl (by decide +kernel) ⟨Nat.le_of_ble_eq_true rfl, Nat.le_of_ble_eq_true rfl⟩) (hP.sub (ws' := [(h0, .inr (3, [.ref h1, .ref h2, .ref h3, .ref h4, .ref h5, .int (nI sz)])), (h1, .inl (cA, 80, .inl ss))]) [0, 1] rfl) (hK.sub [0] rfl) (va_recv hK hP (ci := 3) (q0 := 0) rfl rfl) rfl hl.1 rfl (Nat.le_of_ble_eq_true rfl) dX2_hasRivalAhead_95 ⟨Nat.zero_le _, Nat.zero_le _⟩ (fun r9 hr9 => ?_)
          subst hr9
          refine lv_if_eq (tgt := 105) hx hb dX2_hasRivalAhead_98 (by decide) (fun c_6 => ?_) (fun c_6 => ?_)
          · skip
            have c_6 := bI_0 c_6
            refine lv_iconst (v := 0) hx hb dX2_hasRivalAhead_105 (by decide) ?_
            exact rd_zret (v := 0) hx hb hr hlocks rfl (by rw [(show m_X2_hasRivalAhead ss ks i = false from by simp only [m_X2_hasRivalAhead, if_neg c_3, if_pos c_4, if_neg c_5, if_pos c_6])]; rfl) dX2_hasRivalAhead_106
          · skip
            have c_6 := bI_n0 c_6
            refine lv_iconst (v := 1) hx hb dX2_hasRivalAhead_101 (by decide) ?_
            refine lv_goto (tgt := 106) hx hb dX2_hasRivalAhead_102 (by decide) ?_
            exact rd_zret (v := 1) hx hb hr hlocks rfl (by rw [(show m_X2_hasRivalAhead ss ks i = true from by simp only [m_X2_hasRivalAhead, if_neg c_3, if_pos c_4, if_neg c_5, if_neg c_6])]; rfl) dX2_hasRivalAhead_106
      by_cases c_7 : (ss i) = 45
      · skip
        refine lv_lookup (off := 89) (tgt := 107) hx hb dX2_hasRivalAhead_18 (by decide) (by rw [c_7]; decide) (by decide) ?_
        refine lv_sipush (v := 3840) hx hb dX2_hasRivalAhead_107 (by decide) ?_
        refine lv_aload_n hx hb dX2_hasRivalAhead_110 rfl (lv_at hl 0 rfl) ?_
        refine va_get (D := (dC, dI)) (ci := 3) (v := .ref h4) (C := RX2) (T := TX2) (N := 6) hx hb hts (by decide +kernel) hown hK hP 0 rfl rfl 3 (by decide) (hts (.fieldLink RX2 21 "PictureRows$Runs" "kinds" "[I") (by decide +kernel)) (fun _ h9 => h9) rfl dX2_hasRivalAhead_111 ?_
        refine lv_iload_n hx hb dX2_hasRivalAhead_114 rfl (lv_at hl 1 rfl) ?_
        refine rd_iald hx hb hK hP 2 0 rfl rfl (i) (by omega) (by omega) dX2_hasRivalAhead_115 ?_
        refine rd_callSN (As := [.int 3840, .int (ks i)]) (rest := []) ⟨hx, hb, hml, hown, hts⟩ hE (c_X4_holds l dC dI 3840 (ks i) ) ⟨va_cnB 2 hts gX2_hasRivalAhead_X4_holds_n67 rfl rfl rfl (hE.1.2 ("PictureRows$Runs", 67, yX4_holds) (by decide)) (hts (.initialized RX4) (by decide +kernel)) (by decide +kernel) ⟨Nat.le_of_ble_eq_true rfl, Nat.le_of_ble_eq_true rfl⟩, hts (.static yX4_holds) (by decide +kernel), trivial⟩ (hP.sub (ws' := []) [] rfl) (hK.sub [] rfl) rfl hl.1 rfl (Nat.le_of_ble_eq_true rfl) dX2_hasRivalAhead_116 ⟨Nat.zero_le _, Nat.zero_le _⟩ (fun r9 hr9 => ?_)
        subst hr9
        refine lv_if_eq (tgt := 136) hx hb dX2_hasRivalAhead_119 (by decide) (fun c_8 => ?_) (fun c_8 => ?_)
        · skip
          have c_8 := bI_0 c_8
          refine lv_iconst (v := 0) hx hb dX2_hasRivalAhead_136 (by decide) ?_
          exact rd_zret (v := 0) hx hb hr hlocks rfl (by rw [(show m_X2_hasRivalAhead ss ks i = false from by simp only [m_X2_hasRivalAhead, if_neg c_3, if_neg c_4, if_pos c_7, if_pos c_8])]; rfl) dX2_hasRivalAhead_137
        · skip
          have c_8 := bI_n0 c_8
          refine lv_aload_n hx hb dX2_hasRivalAhead_122 rfl (lv_at hl 0 rfl) ?_
          refine lv_bipush (v := 43) hx hb dX2_hasRivalAhead_123 (by decide) ?_
          refine lv_iload_n hx hb dX2_hasRivalAhead_125 rfl (lv_at hl 1 rfl) ?_
          refine rd_callV (As := [.int 43, .int (nI i)]) (rest := []) ⟨hx, hb, hml, hown, hts⟩ hE (c_X2_standsAhead l dC dI h0 h1 h2 h3 h4 h5 cA sz ss 43 i (by omega) (by omega)) (cwV 2 hts gX2_hasRivalAhead_X2_standsAhead rfl rfl rfl (by decide +kernel) ⟨Nat.le_of_ble_eq_true rfl, Nat.le_of_ble_eq_true rfl⟩) (hP.sub (ws' := [(h0, .inr (3, [.ref h1, .ref h2, .ref h3, .ref h4, .ref h5, .int (nI sz)])), (h1, .inl (cA, 80, .inl ss))]) [0, 1] rfl) (hK.sub [0] rfl) (va_recv hK hP (ci := 3) (q0 := 0) rfl rfl) rfl hl.1 rfl (Nat.le_of_ble_eq_true rfl) dX2_hasRivalAhead_126 ⟨Nat.zero_le _, Nat.zero_le _⟩ (fun r9 hr9 => ?_)
          subst hr9
          refine lv_if_eq (tgt := 136) hx hb dX2_hasRivalAhead_129 (by decide) (fun c_9 => ?_) (fun c_9 => ?_)
          · skip
            have c_9 := bI_0 c_9
            refine lv_iconst (v := 0) hx hb dX2_hasRivalAhead_136 (by decide) ?_
            exact rd_zret (v := 0) hx hb hr hlocks rfl (by rw [(show m_X2_hasRivalAhead ss ks i = false from by simp only [m_X2_hasRivalAhead, if_neg c_3, if_neg c_4, if_pos c_7, if_neg c_8, if_pos c_9])]; rfl) dX2_hasRivalAhead_137
          · skip
            have c_9 := bI_n0 c_9
            refine lv_iconst (v := 1) hx hb dX2_hasRivalAhead_132 (by decide) ?_
            refine lv_goto (tgt := 137) hx hb dX2_hasRivalAhead_133 (by decide) ?_
            exact rd_zret (v := 1) hx hb hr hlocks rfl (by rw [(show m_X2_hasRivalAhead ss ks i = true from by simp only [m_X2_hasRivalAhead, if_neg c_3, if_neg c_4, if_pos c_7, if_neg c_8, if_neg c_9])]; rfl) dX2_hasRivalAhead_137
      by_cases c_10 : (ss i) = 90
      · skip
        refine lv_lookup (off := 42) (tgt := 60) hx hb dX2_hasRivalAhead_18 (by decide) (by rw [c_10]; decide) (by decide) ?_
        refine lv_aload_n hx hb dX2_hasRivalAhead_60 rfl (lv_at hl 0 rfl) ?_
        refine lv_bipush (v := 42) hx hb dX2_hasRivalAhead_61 (by decide) ?_
        refine lv_iload_n hx hb dX2_hasRivalAhead_63 rfl (lv_at hl 1 rfl) ?_
        refine rd_callV (As := [.int 42, .int (nI i)]) (rest := []) ⟨hx, hb, hml, hown, hts⟩ hE (c_X2_standsAhead l dC dI h0 h1 h2 h3 h4 h5 cA sz ss 42 i (by omega) (by omega)) (cwV 2 hts gX2_hasRivalAhead_X2_standsAhead rfl rfl rfl (by decide +kernel) ⟨Nat.le_of_ble_eq_true rfl, Nat.le_of_ble_eq_true rfl⟩) (hP.sub (ws' := [(h0, .inr (3, [.ref h1, .ref h2, .ref h3, .ref h4, .ref h5, .int (nI sz)])), (h1, .inl (cA, 80, .inl ss))]) [0, 1] rfl) (hK.sub [0] rfl) (va_recv hK hP (ci := 3) (q0 := 0) rfl rfl) rfl hl.1 rfl (Nat.le_of_ble_eq_true rfl) dX2_hasRivalAhead_64 ⟨Nat.zero_le _, Nat.zero_le _⟩ (fun r9 hr9 => ?_)
        subst hr9
        exact rd_zret (v := bI (m_X2_standsAhead ss 42 i)) hx hb hr hlocks (bI_nar _) (by rw [(show m_X2_hasRivalAhead ss ks i = m_X2_standsAhead ss 42 i from by simp only [m_X2_hasRivalAhead, if_neg c_3, if_neg c_4, if_neg c_7, if_pos c_10])]) dX2_hasRivalAhead_67
      refine lv_lookup (off := 120) (tgt := 138) hx hb dX2_hasRivalAhead_18 (by decide) (by show Op.lookupswitch.offset [(42, 50), (43, 58), (45, 89), (90, 42)] _ _ = _; rw [lv_osw c_3 (by decide), lv_osw c_4 (by decide), lv_osw c_7 (by decide), lv_osw c_10 (by decide)]; rfl) (by decide) ?_
      refine lv_iconst (v := 0) hx hb dX2_hasRivalAhead_138 (by decide) ?_
      exact rd_zret (v := 0) hx hb hr hlocks rfl (by rw [(show m_X2_hasRivalAhead ss ks i = false from by simp only [m_X2_hasRivalAhead, if_neg c_3, if_neg c_4, if_neg c_7, if_neg c_10])]; rfl) dX2_hasRivalAhead_139
    · skip
      have c_2 : ¬ i < 80 := (fun q_ => c_2 ((nI_ltI (a := i) (b := 80) (by omega) (by omega)).mpr q_))
      exfalso; omega
def m_X2_categoryOf (ss : Nat → Int32) (sz : Nat) (pr : Int32) : Int32 := if (m_X4_holds pr 18) = false then (if (m_X4_holds pr 13) = false then (if (pr &&& (-249857)) = 0 then 3 else 4) else (if (m_X4_holds pr 0) = false then (if (m_X2_standsAhead ss 88 sz) = false then (if (m_X2_standsAhead ss 57 sz) = false then 0 else 1) else 1) else 2)) else (if (m_X4_holds pr 0) = false then 5 else 6)
set_option maxHeartbeats 4000000 in
set_option maxRecDepth 100000 in
theorem c_X2_categoryOf (l : Launch) (dC : Nat → ClassId) (dI : Nat → Nat → Nat) (h0 : Nat) (h1 : Nat) (h2 : Nat) (h3 : Nat) (h4 : Nat) (h5 : Nat) (cA : ClassId) (ss : Nat → Int32) (sz : Nat) (pr : Int32) (hsz : sz ≤ 80) : Met l yX2_categoryOf wsX2_categoryOf ({ frames := 1, cells := 0, slots := 0, locals := 23 } : Room) (va_Pc [.ref h0, .int pr] (rd_P (dC, dI) vwCl [(h0, .inr (3, [.ref h1, .ref h2, .ref h3, .ref h4, .ref h5, .int (nI sz)])), (h1, .inl (cA, 80, .inl ss))] [(cA, .int)])) (vp_Si (fun r => r = m_X2_categoryOf ss sz pr)) 0 0 (fun _ => False) := by
  refine Met.ofW (cc := cX2_categoryOf) (maxL := 2) (ret := (some .int)) (by decide) rfl ?_
  intro p e s m args below meth c s₁ B hml hv
  obtain ⟨rfl, hE, hP, hK⟩ := hv
  have hx := B.exec
  have hb := B.bytes
  have hr := B.returns
  have hts := atoms_spec (ws := wsX2_categoryOf) B.pre
  have hown : s.vm.findClass RX2 = some m.cls := findClass_of_methodNamed B.named
  have hlocks := B.notSynchronized
  have hl := lv_entry ([.ref h0, .int pr]) (n := 2) (Nat.le_of_ble_eq_true rfl)
  rw [lg_entry_eq]
  generalize (lg_sl ([.ref h0, .int pr]) ++ List.replicate (2 - (lg_sl ([.ref h0, .int pr])).length) Slot.unset).toArray = ls at hl ⊢
  have hl : lv_has ls 2 [(0, .ref h0), (1, .int pr)] := hl
  refine lv_iload_n hx hb dX2_categoryOf_0 rfl (lv_at hl 1 rfl) ?_
  refine lv_bipush (v := 18) hx hb dX2_categoryOf_1 (by decide) ?_
  refine rd_callSN (As := [.int pr, .int 18]) (rest := []) ⟨hx, hb, hml, hown, hts⟩ hE (c_X4_holds l dC dI pr 18 ) ⟨va_cnB 2 hts gX2_categoryOf_X4_holds_n67 rfl rfl rfl (hE.1.2 ("PictureRows$Runs", 67, yX4_holds) (by decide)) (hts (.initialized RX4) (by decide +kernel)) (by decide +kernel) ⟨Nat.le_of_ble_eq_true rfl, Nat.le_of_ble_eq_true rfl⟩, hts (.static yX4_holds) (by decide +kernel), trivial⟩ (hP.sub (ws' := []) [] rfl) (hK.sub [] rfl) rfl hl.1 rfl (Nat.le_of_ble_eq_true rfl) dX2_categoryOf_3 ⟨Nat.zero_le _, Nat.zero_le _⟩ (fun r9 hr9 => ?_)
  subst hr9
  refine lv_if_eq (tgt := 24) hx hb dX2_categoryOf_6 (by decide) (fun c_1 => ?_) (fun c_1 => ?_)
  · skip
    have c_1 := bI_0 c_1
    refine lv_iload_n hx hb dX2_categoryOf_24 rfl (lv_at hl 1 rfl) ?_
    refine lv_bipush (v := 13) hx hb dX2_categoryOf_25 (by decide) ?_
    refine rd_callSN (As := [.int pr, .int 13]) (rest := []) ⟨hx, hb, hml, hown, hts⟩ hE (c_X4_holds l dC dI pr 13 ) ⟨va_cnB 2 hts gX2_categoryOf_X4_holds_n67 rfl rfl rfl (hE.1.2 ("PictureRows$Runs", 67, yX4_holds) (by decide)) (hts (.initialized RX4) (by decide +kernel)) (by decide +kernel) ⟨Nat.le_of_ble_eq_true rfl, Nat.le_of_ble_eq_true rfl⟩, hts (.static yX4_holds) (by decide +kernel), trivial⟩ (hP.sub (ws' := []) [] rfl) (hK.sub [] rfl) rfl hl.1 rfl (Nat.le_of_ble_eq_true rfl) dX2_categoryOf_27 ⟨Nat.zero_le _, Nat.zero_le _⟩ (fun r9 hr9 => ?_)
    subst hr9
    refine lv_if_eq (tgt := 75) hx hb dX2_categoryOf_30 (by decide) (fun c_2 => ?_) (fun c_2 => ?_)
    · skip
      have c_2 := bI_0 c_2
      refine lv_iload_n hx hb dX2_categoryOf_75 rfl (lv_at hl 1 rfl) ?_
      refine lv_ldc (v := (-249857)) hx hb hown (hts (.constant RX2 93 (-249857)) (by decide +kernel)) dX2_categoryOf_76 ?_
      refine lv_iand hx hb dX2_categoryOf_78 ?_
      refine lv_if_ne (tgt := 86) hx hb dX2_categoryOf_79 (by decide) (fun c_3 => ?_) (fun c_3 => ?_)
      · skip
        refine lv_iconst (v := 4) hx hb dX2_categoryOf_86 (by decide) ?_
        exact rd_iret (v := 4) hx hb hr hlocks (show m_X2_categoryOf ss sz pr = 4 from by simp only [m_X2_categoryOf, if_pos c_1, if_pos c_2, if_neg c_3]).symm dX2_categoryOf_87
      · skip
        refine lv_iconst (v := 3) hx hb dX2_categoryOf_82 (by decide) ?_
        refine lv_goto (tgt := 87) hx hb dX2_categoryOf_83 (by decide) ?_
        exact rd_iret (v := 3) hx hb hr hlocks (show m_X2_categoryOf ss sz pr = 3 from by simp only [m_X2_categoryOf, if_pos c_1, if_pos c_2, if_pos c_3]).symm dX2_categoryOf_87
    · skip
      have c_2 := bI_n0 c_2
      refine lv_iload_n hx hb dX2_categoryOf_33 rfl (lv_at hl 1 rfl) ?_
      refine lv_iconst (v := 0) hx hb dX2_categoryOf_34 (by decide) ?_
      refine rd_callSN (As := [.int pr, .int 0]) (rest := []) ⟨hx, hb, hml, hown, hts⟩ hE (c_X4_holds l dC dI pr 0 ) ⟨va_cnB 2 hts gX2_categoryOf_X4_holds_n67 rfl rfl rfl (hE.1.2 ("PictureRows$Runs", 67, yX4_holds) (by decide)) (hts (.initialized RX4) (by decide +kernel)) (by decide +kernel) ⟨Nat.le_of_ble_eq_true rfl, Nat.le_of_ble_eq_true rfl⟩, hts (.static yX4_holds) (by decide +kernel), trivial⟩ (hP.sub (ws' := []) [] rfl) (hK.sub [] rfl) rfl hl.1 rfl (Nat.le_of_ble_eq_true rfl) dX2_categoryOf_35 ⟨Nat.zero_le _, Nat.zero_le _⟩ (fun r9 hr9 => ?_)
      subst hr9
      refine lv_if_eq (tgt := 43) hx hb dX2_categoryOf_38 (by decide) (fun c_4 => ?_) (fun c_4 => ?_)
      · skip
        have c_4 := bI_0 c_4
        refine lv_aload_n hx hb dX2_categoryOf_43 rfl (lv_at hl 0 rfl) ?_
        refine lv_bipush (v := 88) hx hb dX2_categoryOf_44 (by decide) ?_
        refine lv_aload_n hx hb dX2_categoryOf_46 rfl (lv_at hl 0 rfl) ?_
        refine va_get (D := (dC, dI)) (ci := 3) (v := .int (nI sz)) (C := RX2) (T := TX2) (N := 6) hx hb hts (by decide +kernel) hown hK hP 0 rfl rfl 5 (by decide) (hts (.fieldLink RX2 27 "PictureRows$Runs" "size" "I") (by decide +kernel)) (fun _ h9 => h9) rfl dX2_categoryOf_47 ?_
        refine rd_callV (As := [.int 88, .int (nI sz)]) (rest := []) ⟨hx, hb, hml, hown, hts⟩ hE (c_X2_standsAhead l dC dI h0 h1 h2 h3 h4 h5 cA sz ss 88 sz (by omega) (by omega)) (cwV 2 hts gX2_categoryOf_X2_standsAhead rfl rfl rfl (by decide +kernel) ⟨Nat.le_of_ble_eq_true rfl, Nat.le_of_ble_eq_true rfl⟩) (hP.sub (ws' := [(h0, .inr (3, [.ref h1, .ref h2, .ref h3, .ref h4, .ref h5, .int (nI sz)])), (h1, .inl (cA, 80, .inl ss))]) [0, 1] rfl) (hK.sub [0] rfl) (va_recv hK hP (ci := 3) (q0 := 0) rfl rfl) rfl hl.1 rfl (Nat.le_of_ble_eq_true rfl) dX2_categoryOf_50 ⟨Nat.zero_le _, Nat.zero_le _⟩ (fun r9 hr9 => ?_)
        subst hr9
        refine lv_if_ne (tgt := 69) hx hb dX2_categoryOf_53 (by decide) (fun c_5 => ?_) (fun c_5 => ?_)
        · skip
          have c_5 := bI_n0 c_5
          refine lv_iconst (v := 1) hx hb dX2_categoryOf_69 (by decide) ?_
          refine lv_goto (tgt := 74) hx hb dX2_categoryOf_70 (by decide) ?_
          exact rd_iret (v := 1) hx hb hr hlocks (show m_X2_categoryOf ss sz pr = 1 from by simp only [m_X2_categoryOf, if_pos c_1, if_neg c_2, if_pos c_4, if_neg c_5]).symm dX2_categoryOf_74
        · skip
          have c_5 := bI_0 c_5
          refine lv_aload_n hx hb dX2_categoryOf_56 rfl (lv_at hl 0 rfl) ?_
          refine lv_bipush (v := 57) hx hb dX2_categoryOf_57 (by decide) ?_
          refine lv_aload_n hx hb dX2_categoryOf_59 rfl (lv_at hl 0 rfl) ?_
          refine va_get (D := (dC, dI)) (ci := 3) (v := .int (nI sz)) (C := RX2) (T := TX2) (N := 6) hx hb hts (by decide +kernel) hown hK hP 0 rfl rfl 5 (by decide) (hts (.fieldLink RX2 27 "PictureRows$Runs" "size" "I") (by decide +kernel)) (fun _ h9 => h9) rfl dX2_categoryOf_60 ?_
          refine rd_callV (As := [.int 57, .int (nI sz)]) (rest := []) ⟨hx, hb, hml, hown, hts⟩ hE (c_X2_standsAhead l dC dI h0 h1 h2 h3 h4 h5 cA sz ss 57 sz (by omega) (by omega)) (cwV 2 hts gX2_categoryOf_X2_standsAhead rfl rfl rfl (by decide +kernel) ⟨Nat.le_of_ble_eq_true rfl, Nat.le_of_ble_eq_true rfl⟩) (hP.sub (ws' := [(h0, .inr (3, [.ref h1, .ref h2, .ref h3, .ref h4, .ref h5, .int (nI sz)])), (h1, .inl (cA, 80, .inl ss))]) [0, 1] rfl) (hK.sub [0] rfl) (va_recv hK hP (ci := 3) (q0 := 0) rfl rfl) rfl hl.1 rfl (Nat.le_of_ble_eq_true rfl) dX2_categoryOf_63 ⟨Nat.zero_le _, Nat.zero_le _⟩ (fun r9 hr9 => ?_)
          subst hr9
          refine lv_if_eq (tgt := 73) hx hb dX2_categoryOf_66 (by decide) (fun c_6 => ?_) (fun c_6 => ?_)
          · skip
            have c_6 := bI_0 c_6
            refine lv_iconst (v := 0) hx hb dX2_categoryOf_73 (by decide) ?_
            exact rd_iret (v := 0) hx hb hr hlocks (show m_X2_categoryOf ss sz pr = 0 from by simp only [m_X2_categoryOf, if_pos c_1, if_neg c_2, if_pos c_4, if_pos c_5, if_pos c_6]).symm dX2_categoryOf_74
          · skip
            have c_6 := bI_n0 c_6
            refine lv_iconst (v := 1) hx hb dX2_categoryOf_69 (by decide) ?_
            refine lv_goto (tgt := 74) hx hb dX2_categoryOf_70 (by decide) ?_
            exact rd_iret (v := 1) hx hb hr hlocks (show m_X2_categoryOf ss sz pr = 1 from by simp only [m_X2_categoryOf, if_pos c_1, if_neg c_2, if_pos c_4, if_pos c_5, if_neg c_6]).symm dX2_categoryOf_74
      · skip
        have c_4 := bI_n0 c_4
        refine lv_iconst (v := 2) hx hb dX2_categoryOf_41 (by decide) ?_
        exact rd_iret (v := 2) hx hb hr hlocks (show m_X2_categoryOf ss sz pr = 2 from by simp only [m_X2_categoryOf, if_pos c_1, if_neg c_2, if_neg c_4]).symm dX2_categoryOf_42
  · skip
    have c_1 := bI_n0 c_1
    refine lv_iload_n hx hb dX2_categoryOf_9 rfl (lv_at hl 1 rfl) ?_
    refine lv_iconst (v := 0) hx hb dX2_categoryOf_10 (by decide) ?_
    refine rd_callSN (As := [.int pr, .int 0]) (rest := []) ⟨hx, hb, hml, hown, hts⟩ hE (c_X4_holds l dC dI pr 0 ) ⟨va_cnB 2 hts gX2_categoryOf_X4_holds_n67 rfl rfl rfl (hE.1.2 ("PictureRows$Runs", 67, yX4_holds) (by decide)) (hts (.initialized RX4) (by decide +kernel)) (by decide +kernel) ⟨Nat.le_of_ble_eq_true rfl, Nat.le_of_ble_eq_true rfl⟩, hts (.static yX4_holds) (by decide +kernel), trivial⟩ (hP.sub (ws' := []) [] rfl) (hK.sub [] rfl) rfl hl.1 rfl (Nat.le_of_ble_eq_true rfl) dX2_categoryOf_11 ⟨Nat.zero_le _, Nat.zero_le _⟩ (fun r9 hr9 => ?_)
    subst hr9
    refine lv_if_eq (tgt := 22) hx hb dX2_categoryOf_14 (by decide) (fun c_7 => ?_) (fun c_7 => ?_)
    · skip
      have c_7 := bI_0 c_7
      refine lv_iconst (v := 5) hx hb dX2_categoryOf_22 (by decide) ?_
      exact rd_iret (v := 5) hx hb hr hlocks (show m_X2_categoryOf ss sz pr = 5 from by simp only [m_X2_categoryOf, if_neg c_1, if_pos c_7]).symm dX2_categoryOf_23
    · skip
      have c_7 := bI_n0 c_7
      refine lv_bipush (v := 6) hx hb dX2_categoryOf_17 (by decide) ?_
      refine lv_goto (tgt := 23) hx hb dX2_categoryOf_19 (by decide) ?_
      exact rd_iret (v := 6) hx hb hr hlocks (show m_X2_categoryOf ss sz pr = 6 from by simp only [m_X2_categoryOf, if_neg c_1, if_neg c_7]).symm dX2_categoryOf_23
def m_X2_digitsIn_L9 (ds : Nat → Int32) (sz : Nat) (st : Nat) (en : Nat) : Nat → Nat → Int32 → Int32
  | 0, _, _ => 0
  | k9 + 1, i, x3 => if en ≤ i then x3 else (if sz ≤ i then x3 else (m_X2_digitsIn_L9 ds sz st en k9 (i + 1) (x3 + (ds i))))
def m_X2_digitsIn (ds : Nat → Int32) (sz : Nat) (st : Nat) (en : Nat) : Int32 := m_X2_digitsIn_L9 ds sz st en (80 + 1) st 0
set_option maxHeartbeats 4000000 in
set_option maxRecDepth 100000 in
theorem c_X2_digitsIn (l : Launch) (dC : Nat → ClassId) (dI : Nat → Nat → Nat) (h0 : Nat) (h1 : Nat) (h2 : Nat) (h3 : Nat) (h4 : Nat) (h5 : Nat) (cA : ClassId) (ds : Nat → Int32) (sz : Nat) (st : Nat) (en : Nat) (hsz : sz ≤ 80) (hst : st ≤ 80) (hen : en ≤ 80) : Met l yX2_digitsIn wsX2_digitsIn ({ frames := 1, cells := 0, slots := 0, locals := 24 } : Room) (va_Pc [.ref h0, .int (nI st), .int (nI en)] (rd_P (dC, dI) vwCl [(h0, .inr (3, [.ref h1, .ref h2, .ref h3, .ref h4, .ref h5, .int (nI sz)])), (h5, .inl (cA, 80, .inl ds))] [(cA, .int)])) (vp_Si (fun r => r = m_X2_digitsIn ds sz st en)) 0 0 (fun _ => False) := by
  refine Met.ofW (cc := cX2_digitsIn) (maxL := 5) (ret := (some .int)) (by decide) rfl ?_
  intro p e s m args below meth c s₁ B hml hv
  obtain ⟨rfl, hE, hP, hK⟩ := hv
  have hx := B.exec
  have hb := B.bytes
  have hr := B.returns
  have hts := atoms_spec (ws := wsX2_digitsIn) B.pre
  have hown : s.vm.findClass RX2 = some m.cls := findClass_of_methodNamed B.named
  have hlocks := B.notSynchronized
  have hl := lv_entry ([.ref h0, .int (nI st), .int (nI en)]) (n := 5) (Nat.le_of_ble_eq_true rfl)
  rw [lg_entry_eq]
  generalize (lg_sl ([.ref h0, .int (nI st), .int (nI en)]) ++ List.replicate (5 - (lg_sl ([.ref h0, .int (nI st), .int (nI en)])).length) Slot.unset).toArray = ls at hl ⊢
  have hl : lv_has ls 5 [(0, .ref h0), (1, .int (nI st)), (2, .int (nI en))] := hl
  refine lv_iconst (v := 0) hx hb dX2_digitsIn_0 (by decide) ?_
  refine lv_istore_n (lv' := [(3, .int 0), (0, .ref h0), (1, .int (nI st)), (2, .int (nI en))]) hx hb dX2_digitsIn_1 rfl hl (by decide) rfl (fun ls hl => ?_)
  refine lv_iload_n hx hb dX2_digitsIn_2 rfl (lv_at hl 2 rfl) ?_
  refine lv_iconst (v := 0) hx hb dX2_digitsIn_3 (by decide) ?_
  refine va_mmax (x := nI st) (y := 0) hx hb (hml.trans hl.1.symm) hown (hts (.methodLink RX2 88 Lib.Math.max.name) (by decide +kernel)) (hts (.static Lib.Math.max.name) (by decide +kernel)) (hts (.initialized "java/lang/Math") (by decide +kernel)) (hts (.code Lib.Math.max.name Lib.Math.max.code 2 (some .int)) (by decide +kernel)) (Nat.le_of_ble_eq_true rfl) (Nat.le_of_ble_eq_true rfl) (Nat.zero_le _) (Nat.zero_le _) dX2_digitsIn_4 ?_
  rw [if_neg (nI_pos (n := st) (by omega))]
  refine lv_istore (lv' := [(4, .int (nI st)), (3, .int 0), (0, .ref h0), (1, .int (nI st)), (2, .int (nI en))]) hx hb dX2_digitsIn_7 hl (by decide) rfl (fun ls hl => ?_)
  have lp_9 : ∀ (k9 i : Nat) (x3 : Int32), i ≤ 80 → 80 + 1 ≤ i + k9 → m_X2_digitsIn ds sz st en = m_X2_digitsIn_L9 ds sz st en k9 i x3 → ∀ (ls : Array Slot), lv_has ls 5 [(0, .ref h0), (1, .int (nI st)), (2, .int (nI en)), (3, .int x3), (4, .int (nI i))] → W p l e (headSpec wsX2_digitsIn ({ frames := 1, cells := 0, slots := 0, locals := 24 } : Room)).room s m (([.ref h0, .int (nI st), .int (nI en)] : List Value).toArray) below meth c s.heap [] 0 0 (MQ below (vp_Si (fun r => r = m_X2_digitsIn ds sz st en)) (([.ref h0, .int (nI st), .int (nI en)] : List Value).toArray) s 0 0 (fun _ => False)) (F0 m 9 ls []) := by
    intro k9
    induction k9 with
    | zero => intro i x3 h1_ h2_; exfalso; omega
    | succ k9 ih9 =>
      intro i x3 hb9 hf9  hm9 ls hl
      refine lv_iload hx hb dX2_digitsIn_9 (lv_at hl 4 rfl) ?_
      refine lv_iload_n hx hb dX2_digitsIn_11 rfl (lv_at hl 2 rfl) ?_
      refine lv_icmp_ge (tgt := 47) hx hb dX2_digitsIn_12 (by decide) (fun c_1 => ?_) (fun c_1 => ?_)
      · skip
        have c_1 : en ≤ i := (nI_leI (a := en) (b := i) (by omega) (by omega)).mp c_1
        refine lv_iload_n hx hb dX2_digitsIn_47 rfl (lv_at hl 3 rfl) ?_
        exact rd_iret (v := x3) hx hb hr hlocks (show m_X2_digitsIn ds sz st en = x3 from hm9.trans (by simp only [m_X2_digitsIn_L9, if_pos c_1])).symm dX2_digitsIn_48
      · skip
        have c_1 : ¬ en ≤ i := (fun q_ => c_1 ((nI_leI (a := en) (b := i) (by omega) (by omega)).mpr q_))
        refine lv_iload hx hb dX2_digitsIn_15 (lv_at hl 4 rfl) ?_
        refine lv_aload_n hx hb dX2_digitsIn_17 rfl (lv_at hl 0 rfl) ?_
        refine va_get (D := (dC, dI)) (ci := 3) (v := .int (nI sz)) (C := RX2) (T := TX2) (N := 6) hx hb hts (by decide +kernel) hown hK hP 0 rfl rfl 5 (by decide) (hts (.fieldLink RX2 27 "PictureRows$Runs" "size" "I") (by decide +kernel)) (fun _ h9 => h9) rfl dX2_digitsIn_18 ?_
        refine lv_icmp_ge (tgt := 47) hx hb dX2_digitsIn_21 (by decide) (fun c_2 => ?_) (fun c_2 => ?_)
        · skip
          have c_2 : sz ≤ i := (nI_leI (a := sz) (b := i) (by omega) (by omega)).mp c_2
          refine lv_iload_n hx hb dX2_digitsIn_47 rfl (lv_at hl 3 rfl) ?_
          exact rd_iret (v := x3) hx hb hr hlocks (show m_X2_digitsIn ds sz st en = x3 from hm9.trans (by simp only [m_X2_digitsIn_L9, if_neg c_1, if_pos c_2])).symm dX2_digitsIn_48
        · skip
          have c_2 : ¬ sz ≤ i := (fun q_ => c_2 ((nI_leI (a := sz) (b := i) (by omega) (by omega)).mpr q_))
          refine lv_iload hx hb dX2_digitsIn_24 (lv_at hl 4 rfl) ?_
          refine lv_bipush (v := 80) hx hb dX2_digitsIn_26 (by decide) ?_
          refine lv_icmp_ge (tgt := 47) hx hb dX2_digitsIn_28 (by decide) (fun c_3 => ?_) (fun c_3 => ?_)
          · skip
            have c_3 : 80 ≤ i := (nI_leI (a := 80) (b := i) (by omega) (by omega)).mp c_3
            exfalso; omega
          · skip
            have c_3 : ¬ 80 ≤ i := (fun q_ => c_3 ((nI_leI (a := 80) (b := i) (by omega) (by omega)).mpr q_))
            refine lv_iload_n hx hb dX2_digitsIn_31 rfl (lv_at hl 3 rfl) ?_
            refine lv_aload_n hx hb dX2_digitsIn_32 rfl (lv_at hl 0 rfl) ?_
            refine va_get (D := (dC, dI)) (ci := 3) (v := .ref h5) (C := RX2) (T := TX2) (N := 6) hx hb hts (by decide +kernel) hown hK hP 0 rfl rfl 4 (by decide) (hts (.fieldLink RX2 24 "PictureRows$Runs" "digitCounts" "[I") (by decide +kernel)) (fun _ h9 => h9) rfl dX2_digitsIn_33 ?_
            refine lv_iload hx hb dX2_digitsIn_36 (lv_at hl 4 rfl) ?_
            refine rd_iald hx hb hK hP 1 0 rfl rfl (i) (by omega) (by omega) dX2_digitsIn_38 ?_
            refine lv_iadd hx hb dX2_digitsIn_39 ?_
            refine lv_istore_n (lv' := [(3, .int (x3 + (ds i))), (0, .ref h0), (1, .int (nI st)), (2, .int (nI en)), (4, .int (nI i))]) hx hb dX2_digitsIn_40 rfl hl (by decide) rfl (fun ls hl => ?_)
            refine lv_iinc (v := nI (i + 1)) (lv' := [(4, .int (nI (i + 1))), (3, .int (x3 + (ds i))), (0, .ref h0), (1, .int (nI st)), (2, .int (nI en))]) hx hb dX2_digitsIn_41 hl (k := 4) rfl (nI_add (i) 1) (by decide) rfl (fun ls hl => ?_)
            refine lv_goto (tgt := 9) hx hb dX2_digitsIn_44 (by decide) ?_
            exact ih9 (i + 1) (x3 + (ds i)) (by omega) (by omega)  (hm9.trans (by simp only [m_X2_digitsIn_L9, if_neg c_1, if_neg c_2])) ls (lv_sub hl [2, 3, 4, 1, 0] rfl)
  exact lp_9 (80 + 1) (st) 0 (by omega) (by omega)  (show m_X2_digitsIn ds sz st en = m_X2_digitsIn_L9 ds sz st en (80 + 1) st 0 from by simp only [m_X2_digitsIn]) ls (lv_sub hl [2, 3, 4, 1, 0] rfl)
def m_X2_firstMisplaced_L10 (ss : Nat → Int32) (ts : Nat → Int32) (ps : Nat → Int32) (ks : Nat → Int32) (ds : Nat → Int32) (sz : Nat) : Nat → Nat → Int32 → Int32 → Int32 → Int32
  | 0, _, _, _, _ => 0
  | k10 + 1, i, x1, x2, x3 => if sz ≤ i then ((-1)) else (if (m_X4_isKind (ks i)) = false then (ps i) else (if (m_X4_holds x1 (ks i)) = false then (ps i) else (if (ts i) ≤ 1 then (if (m_X2_hasRivalAhead ss ks i) = false then (if 31 < (x2 + (ds i)) then (ps i) else (if (x3 + (m_X4_signsCounted (ss i) (ts i))) ≤ 9999 then (m_X2_firstMisplaced_L10 ss ts ps ks ds sz k10 (i + 1) (x1 &&& (tbL.getD (ks i).toNatClampNeg 0)) (x2 + (ds i)) (x3 + (m_X4_signsCounted (ss i) (ts i)))) else (ps i))) else (ps i)) else (if (m_X4_holds (x1 &&& (tbL.getD (ks i).toNatClampNeg 0)) (ks i)) = false then (ps i) else (if (m_X2_hasRivalAhead ss ks i) = false then (if 31 < (x2 + (ds i)) then (ps i) else (if (x3 + (m_X4_signsCounted (ss i) (ts i))) ≤ 9999 then (m_X2_firstMisplaced_L10 ss ts ps ks ds sz k10 (i + 1) (x1 &&& (tbL.getD (ks i).toNatClampNeg 0)) (x2 + (ds i)) (x3 + (m_X4_signsCounted (ss i) (ts i)))) else (ps i))) else (ps i))))))
def m_X2_firstMisplaced (ss : Nat → Int32) (ts : Nat → Int32) (ps : Nat → Int32) (ks : Nat → Int32) (ds : Nat → Int32) (sz : Nat) : Int32 := m_X2_firstMisplaced_L10 ss ts ps ks ds sz (sz + 1) 0 524287 0 0
set_option maxHeartbeats 4000000 in
set_option maxRecDepth 100000 in
theorem c_X2_firstMisplaced (l : Launch) (dC : Nat → ClassId) (dI : Nat → Nat → Nat) (h0 : Nat) (h1 : Nat) (h2 : Nat) (h3 : Nat) (h4 : Nat) (h5 : Nat) (cA : ClassId) (ss : Nat → Int32) (ts : Nat → Int32) (ps : Nat → Int32) (ks : Nat → Int32) (ds : Nat → Int32) (sz : Nat) (hsz : sz ≤ 80) : Met l yX2_firstMisplaced wsX2_firstMisplaced ({ frames := 2, cells := 0, slots := 0, locals := 44 } : Room) (va_Pc [.ref h0] (rd_P (dC, dI) vwCl [(h0, .inr (3, [.ref h1, .ref h2, .ref h3, .ref h4, .ref h5, .int (nI sz)])), (h1, .inl (cA, 80, .inl ss)), (h2, .inl (cA, 80, .inl ts)), (h3, .inl (cA, 80, .inl ps)), (h4, .inl (cA, 80, .inl ks)), (h5, .inl (cA, 80, .inl ds))] [(cA, .int)])) (vp_Si (fun r => r = m_X2_firstMisplaced ss ts ps ks ds sz)) 0 0 (fun _ => False) := by
  refine Met.ofW (cc := cX2_firstMisplaced) (maxL := 6) (ret := (some .int)) (by decide) rfl ?_
  intro p e s m args below meth c s₁ B hml hv
  obtain ⟨rfl, hE, hP, hK⟩ := hv
  have hx := B.exec
  have hb := B.bytes
  have hr := B.returns
  have hts := atoms_spec (ws := wsX2_firstMisplaced) B.pre
  have hown : s.vm.findClass RX2 = some m.cls := findClass_of_methodNamed B.named
  have hlocks := B.notSynchronized
  have hl := lv_entry ([.ref h0]) (n := 6) (Nat.le_of_ble_eq_true rfl)
  rw [lg_entry_eq]
  generalize (lg_sl ([.ref h0]) ++ List.replicate (6 - (lg_sl ([.ref h0])).length) Slot.unset).toArray = ls at hl ⊢
  have hl : lv_has ls 6 [(0, .ref h0)] := hl
  obtain ⟨tbA, hZ, hT⟩ := hE.2.1
  refine lv_ldc (v := 524287) hx hb hown (hts (.constant RX2 74 524287) (by decide +kernel)) dX2_firstMisplaced_0 ?_
  refine lv_istore_n (lv' := [(1, .int 524287), (0, .ref h0)]) hx hb dX2_firstMisplaced_2 rfl hl (by decide) rfl (fun ls hl => ?_)
  refine lv_iconst (v := 0) hx hb dX2_firstMisplaced_3 (by decide) ?_
  refine lv_istore_n (lv' := [(2, .int 0), (1, .int 524287), (0, .ref h0)]) hx hb dX2_firstMisplaced_4 rfl hl (by decide) rfl (fun ls hl => ?_)
  refine lv_iconst (v := 0) hx hb dX2_firstMisplaced_5 (by decide) ?_
  refine lv_istore_n (lv' := [(3, .int 0), (2, .int 0), (1, .int 524287), (0, .ref h0)]) hx hb dX2_firstMisplaced_6 rfl hl (by decide) rfl (fun ls hl => ?_)
  refine lv_iconst (v := 0) hx hb dX2_firstMisplaced_7 (by decide) ?_
  refine lv_istore (lv' := [(4, .int 0), (3, .int 0), (2, .int 0), (1, .int 524287), (0, .ref h0)]) hx hb dX2_firstMisplaced_8 hl (by decide) rfl (fun ls hl => ?_)
  have lp_10 : ∀ (k10 i : Nat) (x1 : Int32) (x2 : Int32) (x3 : Int32), i ≤ sz → sz + 1 ≤ i + k10 → m_X2_firstMisplaced ss ts ps ks ds sz = m_X2_firstMisplaced_L10 ss ts ps ks ds sz k10 i x1 x2 x3 → ∀ (ls : Array Slot), lv_has ls 6 [(0, .ref h0), (1, .int x1), (2, .int x2), (3, .int x3), (4, .int (nI i))] → W p l e (headSpec wsX2_firstMisplaced ({ frames := 2, cells := 0, slots := 0, locals := 44 } : Room)).room s m (([.ref h0] : List Value).toArray) below meth c s.heap [] 0 0 (MQ below (vp_Si (fun r => r = m_X2_firstMisplaced ss ts ps ks ds sz)) (([.ref h0] : List Value).toArray) s 0 0 (fun _ => False)) (F0 m 10 ls []) := by
    intro k10
    induction k10 with
    | zero => intro i x1 x2 x3 h1_ h2_; exfalso; omega
    | succ k10 ih10 =>
      intro i x1 x2 x3 hb10 hf10  hm10 ls hl
      refine lv_iload hx hb dX2_firstMisplaced_10 (lv_at hl 4 rfl) ?_
      refine lv_aload_n hx hb dX2_firstMisplaced_12 rfl (lv_at hl 0 rfl) ?_
      refine va_get (D := (dC, dI)) (ci := 3) (v := .int (nI sz)) (C := RX2) (T := TX2) (N := 6) hx hb hts (by decide +kernel) hown hK hP 0 rfl rfl 5 (by decide) (hts (.fieldLink RX2 27 "PictureRows$Runs" "size" "I") (by decide +kernel)) (fun _ h9 => h9) rfl dX2_firstMisplaced_13 ?_
      refine lv_icmp_ge (tgt := 163) hx hb dX2_firstMisplaced_16 (by decide) (fun c_1 => ?_) (fun c_1 => ?_)
      · skip
        have c_1 : sz ≤ i := (nI_leI (a := sz) (b := i) (by omega) (by omega)).mp c_1
        refine lv_iconst (v := (-1)) hx hb dX2_firstMisplaced_163 (by decide) ?_
        exact rd_iret (v := (-1)) hx hb hr hlocks (show m_X2_firstMisplaced ss ts ps ks ds sz = (-1) from hm10.trans (by simp only [m_X2_firstMisplaced_L10, if_pos c_1])).symm dX2_firstMisplaced_164
      · skip
        have c_1 : ¬ sz ≤ i := (fun q_ => c_1 ((nI_leI (a := sz) (b := i) (by omega) (by omega)).mpr q_))
        refine lv_iload hx hb dX2_firstMisplaced_19 (lv_at hl 4 rfl) ?_
        refine lv_bipush (v := 80) hx hb dX2_firstMisplaced_21 (by decide) ?_
        refine lv_icmp_ge (tgt := 163) hx hb dX2_firstMisplaced_23 (by decide) (fun c_2 => ?_) (fun c_2 => ?_)
        · skip
          have c_2 : 80 ≤ i := (nI_leI (a := 80) (b := i) (by omega) (by omega)).mp c_2
          exfalso; omega
        · skip
          have c_2 : ¬ 80 ≤ i := (fun q_ => c_2 ((nI_leI (a := 80) (b := i) (by omega) (by omega)).mpr q_))
          refine lv_aload_n hx hb dX2_firstMisplaced_26 rfl (lv_at hl 0 rfl) ?_
          refine va_get (D := (dC, dI)) (ci := 3) (v := .ref h4) (C := RX2) (T := TX2) (N := 6) hx hb hts (by decide +kernel) hown hK hP 0 rfl rfl 3 (by decide) (hts (.fieldLink RX2 21 "PictureRows$Runs" "kinds" "[I") (by decide +kernel)) (fun _ h9 => h9) rfl dX2_firstMisplaced_27 ?_
          refine lv_iload hx hb dX2_firstMisplaced_30 (lv_at hl 4 rfl) ?_
          refine rd_iald hx hb hK hP 4 0 rfl rfl (i) (by omega) (by omega) dX2_firstMisplaced_32 ?_
          refine lv_istore (lv' := [(5, .int (ks i)), (0, .ref h0), (1, .int x1), (2, .int x2), (3, .int x3), (4, .int (nI i))]) hx hb dX2_firstMisplaced_33 hl (by decide) rfl (fun ls hl => ?_)
          refine lv_iload hx hb dX2_firstMisplaced_35 (lv_at hl 0 rfl) ?_
          refine rd_callSN (As := [.int (ks i)]) (rest := []) ⟨hx, hb, hml, hown, hts⟩ hE (c_X4_isKind l dC dI (ks i) ) ⟨va_cnB 1 hts gX2_firstMisplaced_X4_isKind_n75 rfl rfl rfl (hE.1.2 ("PictureRows$Runs", 75, yX4_isKind) (by decide)) (hts (.initialized RX4) (by decide +kernel)) (by decide +kernel) ⟨Nat.le_of_ble_eq_true rfl, Nat.le_of_ble_eq_true rfl⟩, hts (.static yX4_isKind) (by decide +kernel), trivial⟩ (hP.sub (ws' := []) [] rfl) (hK.sub [] rfl) rfl hl.1 rfl (Nat.le_of_ble_eq_true rfl) dX2_firstMisplaced_37 ⟨Nat.zero_le _, Nat.zero_le _⟩ (fun r9 hr9 => ?_)
          subst hr9
          refine lv_if_eq (tgt := 52) hx hb dX2_firstMisplaced_40 (by decide) (fun c_3 => ?_) (fun c_3 => ?_)
          · skip
            have c_3 := bI_0 c_3
            refine lv_aload_n hx hb dX2_firstMisplaced_52 rfl (lv_at hl 1 rfl) ?_
            refine va_get (D := (dC, dI)) (ci := 3) (v := .ref h3) (C := RX2) (T := TX2) (N := 6) hx hb hts (by decide +kernel) hown hK hP 0 rfl rfl 2 (by decide) (hts (.fieldLink RX2 18 "PictureRows$Runs" "places" "[I") (by decide +kernel)) (fun _ h9 => h9) rfl dX2_firstMisplaced_53 ?_
            refine lv_iload hx hb dX2_firstMisplaced_56 (lv_at hl 5 rfl) ?_
            refine rd_iald hx hb hK hP 3 0 rfl rfl (i) (by omega) (by omega) dX2_firstMisplaced_58 ?_
            exact rd_iret (v := ps i) hx hb hr hlocks (show m_X2_firstMisplaced ss ts ps ks ds sz = ps i from hm10.trans (by simp only [m_X2_firstMisplaced_L10, if_neg c_1, if_pos c_3])).symm dX2_firstMisplaced_59
          · skip
            have c_3 := bI_n0 c_3
            refine lv_iload_n hx hb dX2_firstMisplaced_43 rfl (lv_at hl 2 rfl) ?_
            refine lv_iload hx hb dX2_firstMisplaced_44 (lv_at hl 0 rfl) ?_
            refine rd_callSN (As := [.int x1, .int (ks i)]) (rest := []) ⟨hx, hb, hml, hown, hts⟩ hE (c_X4_holds l dC dI x1 (ks i) ) ⟨va_cnB 2 hts gX2_firstMisplaced_X4_holds_n67 rfl rfl rfl (hE.1.2 ("PictureRows$Runs", 67, yX4_holds) (by decide)) (hts (.initialized RX4) (by decide +kernel)) (by decide +kernel) ⟨Nat.le_of_ble_eq_true rfl, Nat.le_of_ble_eq_true rfl⟩, hts (.static yX4_holds) (by decide +kernel), trivial⟩ (hP.sub (ws' := []) [] rfl) (hK.sub [] rfl) rfl hl.1 rfl (Nat.le_of_ble_eq_true rfl) dX2_firstMisplaced_46 ⟨Nat.zero_le _, Nat.zero_le _⟩ (fun r9 hr9 => ?_)
            subst hr9
            refine lv_if_ne (tgt := 60) hx hb dX2_firstMisplaced_49 (by decide) (fun c_4 => ?_) (fun c_4 => ?_)
            · skip
              have c_4 := bI_n0 c_4
              refine lv_iload_n hx hb dX2_firstMisplaced_60 rfl (lv_at hl 2 rfl) ?_
              refine va_getsN hx hb hZ va_S.rf hown (va_Nw.use rfl (hE.1.1 ("PictureRows$Runs", 79, "PictureRows", "MAY_COME_BEHIND", "[I") (by decide))) (fun _ h9 => h9) dX2_firstMisplaced_61 ?_
              refine lv_iload hx hb dX2_firstMisplaced_64 (lv_at hl 0 rfl) ?_
              refine va_ti (v := .int (tbL.getD (ks i).toNatClampNeg 0)) hx hb hT va_S.rf (by exact kind_in (by assumption)) rfl dX2_firstMisplaced_66 ?_
              refine lv_iand hx hb dX2_firstMisplaced_67 ?_
              refine lv_istore_n (lv' := [(1, .int (x1 &&& (tbL.getD (ks i).toNatClampNeg 0))), (5, .int (ks i)), (0, .ref h0), (2, .int x2), (3, .int x3), (4, .int (nI i))]) hx hb dX2_firstMisplaced_68 rfl hl (by decide) rfl (fun ls hl => ?_)
              refine lv_aload_n hx hb dX2_firstMisplaced_69 rfl (lv_at hl 2 rfl) ?_
              refine va_get (D := (dC, dI)) (ci := 3) (v := .ref h2) (C := RX2) (T := TX2) (N := 6) hx hb hts (by decide +kernel) hown hK hP 0 rfl rfl 1 (by decide) (hts (.fieldLink RX2 15 "PictureRows$Runs" "times" "[I") (by decide +kernel)) (fun _ h9 => h9) rfl dX2_firstMisplaced_70 ?_
              refine lv_iload hx hb dX2_firstMisplaced_73 (lv_at hl 5 rfl) ?_
              refine rd_iald hx hb hK hP 2 0 rfl rfl (i) (by omega) (by omega) dX2_firstMisplaced_75 ?_
              refine lv_iconst (v := 1) hx hb dX2_firstMisplaced_76 (by decide) ?_
              refine lv_icmp_le (tgt := 89) hx hb dX2_firstMisplaced_77 (by decide) (fun c_5 => ?_) (fun c_5 => ?_)
              · skip
                refine lv_aload_n hx hb dX2_firstMisplaced_89 rfl (lv_at hl 2 rfl) ?_
                refine lv_iload hx hb dX2_firstMisplaced_90 (lv_at hl 5 rfl) ?_
                refine rd_callV (As := [.int (nI i)]) (rest := []) ⟨hx, hb, hml, hown, hts⟩ hE (c_X2_hasRivalAhead l dC dI h0 h1 h2 h3 h4 h5 cA sz ss ks i (by omega) (by omega)) (cwV 1 hts gX2_firstMisplaced_X2_hasRivalAhead rfl rfl rfl (by decide +kernel) ⟨Nat.le_of_ble_eq_true rfl, Nat.le_of_ble_eq_true rfl⟩) (hP.sub (ws' := [(h0, .inr (3, [.ref h1, .ref h2, .ref h3, .ref h4, .ref h5, .int (nI sz)])), (h1, .inl (cA, 80, .inl ss)), (h4, .inl (cA, 80, .inl ks))]) [0, 1, 4] rfl) (hK.sub [0] rfl) (va_recv hK hP (ci := 3) (q0 := 0) rfl rfl) rfl hl.1 rfl (Nat.le_of_ble_eq_true rfl) dX2_firstMisplaced_92 ⟨Nat.zero_le _, Nat.zero_le _⟩ (fun r9 hr9 => ?_)
                subst hr9
                refine lv_if_eq (tgt := 106) hx hb dX2_firstMisplaced_95 (by decide) (fun c_6 => ?_) (fun c_6 => ?_)
                · skip
                  have c_6 := bI_0 c_6
                  refine lv_iload_n hx hb dX2_firstMisplaced_106 rfl (lv_at hl 3 rfl) ?_
                  refine lv_aload_n hx hb dX2_firstMisplaced_107 rfl (lv_at hl 2 rfl) ?_
                  refine va_get (D := (dC, dI)) (ci := 3) (v := .ref h5) (C := RX2) (T := TX2) (N := 6) hx hb hts (by decide +kernel) hown hK hP 0 rfl rfl 4 (by decide) (hts (.fieldLink RX2 24 "PictureRows$Runs" "digitCounts" "[I") (by decide +kernel)) (fun _ h9 => h9) rfl dX2_firstMisplaced_108 ?_
                  refine lv_iload hx hb dX2_firstMisplaced_111 (lv_at hl 5 rfl) ?_
                  refine rd_iald hx hb hK hP 5 0 rfl rfl (i) (by omega) (by omega) dX2_firstMisplaced_113 ?_
                  refine lv_iadd hx hb dX2_firstMisplaced_114 ?_
                  refine lv_istore_n (lv' := [(2, .int (x2 + (ds i))), (1, .int (x1 &&& (tbL.getD (ks i).toNatClampNeg 0))), (5, .int (ks i)), (0, .ref h0), (3, .int x3), (4, .int (nI i))]) hx hb dX2_firstMisplaced_115 rfl hl (by decide) rfl (fun ls hl => ?_)
                  refine lv_iload_n hx hb dX2_firstMisplaced_116 rfl (lv_at hl 4 rfl) ?_
                  refine lv_aload_n hx hb dX2_firstMisplaced_117 rfl (lv_at hl 3 rfl) ?_
                  refine va_get (D := (dC, dI)) (ci := 3) (v := .ref h1) (C := RX2) (T := TX2) (N := 6) hx hb hts (by decide +kernel) hown hK hP 0 rfl rfl 0 (by decide) (hts (.fieldLink RX2 9 "PictureRows$Runs" "signs" "[I") (by decide +kernel)) (fun _ h9 => h9) rfl dX2_firstMisplaced_118 ?_
                  refine lv_iload hx hb dX2_firstMisplaced_121 (lv_at hl 5 rfl) ?_
                  refine rd_iald hx hb hK hP 1 0 rfl rfl (i) (by omega) (by omega) dX2_firstMisplaced_123 ?_
                  refine lv_aload_n hx hb dX2_firstMisplaced_124 rfl (lv_at hl 3 rfl) ?_
                  refine va_get (D := (dC, dI)) (ci := 3) (v := .ref h2) (C := RX2) (T := TX2) (N := 6) hx hb hts (by decide +kernel) hown hK hP 0 rfl rfl 1 (by decide) (hts (.fieldLink RX2 15 "PictureRows$Runs" "times" "[I") (by decide +kernel)) (fun _ h9 => h9) rfl dX2_firstMisplaced_125 ?_
                  refine lv_iload hx hb dX2_firstMisplaced_128 (lv_at hl 5 rfl) ?_
                  refine rd_iald hx hb hK hP 2 0 rfl rfl (i) (by omega) (by omega) dX2_firstMisplaced_130 ?_
                  refine rd_callSN (As := [.int (ss i), .int (ts i)]) (rest := [.int x3]) ⟨hx, hb, hml, hown, hts⟩ hE (c_X4_signsCounted l dC dI (ss i) (ts i) ) ⟨va_cnB 2 hts gX2_firstMisplaced_X4_signsCounted_n85 rfl rfl rfl (hE.1.2 ("PictureRows$Runs", 85, yX4_signsCounted) (by decide)) (hts (.initialized RX4) (by decide +kernel)) (by decide +kernel) ⟨Nat.le_of_ble_eq_true rfl, Nat.le_of_ble_eq_true rfl⟩, hts (.static yX4_signsCounted) (by decide +kernel), trivial⟩ (hP.sub (ws' := []) [] rfl) (hK.sub [] rfl) rfl hl.1 rfl (Nat.le_of_ble_eq_true rfl) dX2_firstMisplaced_131 ⟨Nat.zero_le _, Nat.zero_le _⟩ (fun r9 hr9 => ?_)
                  subst hr9
                  refine lv_iadd hx hb dX2_firstMisplaced_134 ?_
                  refine lv_istore_n (lv' := [(3, .int (x3 + (m_X4_signsCounted (ss i) (ts i)))), (2, .int (x2 + (ds i))), (1, .int (x1 &&& (tbL.getD (ks i).toNatClampNeg 0))), (5, .int (ks i)), (0, .ref h0), (4, .int (nI i))]) hx hb dX2_firstMisplaced_135 rfl hl (by decide) rfl (fun ls hl => ?_)
                  refine lv_iload_n hx hb dX2_firstMisplaced_136 rfl (lv_at hl 1 rfl) ?_
                  refine lv_bipush (v := 31) hx hb dX2_firstMisplaced_137 (by decide) ?_
                  refine lv_icmp_gt (tgt := 149) hx hb dX2_firstMisplaced_139 (by decide) (fun c_7 => ?_) (fun c_7 => ?_)
                  · skip
                    refine lv_aload_n hx hb dX2_firstMisplaced_149 rfl (lv_at hl 4 rfl) ?_
                    refine va_get (D := (dC, dI)) (ci := 3) (v := .ref h3) (C := RX2) (T := TX2) (N := 6) hx hb hts (by decide +kernel) hown hK hP 0 rfl rfl 2 (by decide) (hts (.fieldLink RX2 18 "PictureRows$Runs" "places" "[I") (by decide +kernel)) (fun _ h9 => h9) rfl dX2_firstMisplaced_150 ?_
                    refine lv_iload hx hb dX2_firstMisplaced_153 (lv_at hl 5 rfl) ?_
                    refine rd_iald hx hb hK hP 3 0 rfl rfl (i) (by omega) (by omega) dX2_firstMisplaced_155 ?_
                    exact rd_iret (v := ps i) hx hb hr hlocks (show m_X2_firstMisplaced ss ts ps ks ds sz = ps i from hm10.trans (by simp only [m_X2_firstMisplaced_L10, if_neg c_1, if_neg c_3, if_neg c_4, if_pos c_5, if_pos c_6, if_pos c_7])).symm dX2_firstMisplaced_156
                  · skip
                    refine lv_iload_n hx hb dX2_firstMisplaced_142 rfl (lv_at hl 0 rfl) ?_
                    refine lv_sipush (v := 9999) hx hb dX2_firstMisplaced_143 (by decide) ?_
                    refine lv_icmp_le (tgt := 157) hx hb dX2_firstMisplaced_146 (by decide) (fun c_8 => ?_) (fun c_8 => ?_)
                    · skip
                      refine lv_iinc (v := nI (i + 1)) (lv' := [(4, .int (nI (i + 1))), (3, .int (x3 + (m_X4_signsCounted (ss i) (ts i)))), (2, .int (x2 + (ds i))), (1, .int (x1 &&& (tbL.getD (ks i).toNatClampNeg 0))), (5, .int (ks i)), (0, .ref h0)]) hx hb dX2_firstMisplaced_157 hl (k := 5) rfl (nI_add (i) 1) (by decide) rfl (fun ls hl => ?_)
                      refine lv_goto (tgt := 10) hx hb dX2_firstMisplaced_160 (by decide) ?_
                      exact ih10 (i + 1) (x1 &&& (tbL.getD (ks i).toNatClampNeg 0)) (x2 + (ds i)) (x3 + (m_X4_signsCounted (ss i) (ts i))) (by omega) (by omega)  (hm10.trans (by simp only [m_X2_firstMisplaced_L10, if_neg c_1, if_neg c_3, if_neg c_4, if_pos c_5, if_pos c_6, if_neg c_7, if_pos c_8])) ls (lv_sub hl [5, 3, 2, 1, 0] rfl)
                    · skip
                      refine lv_aload_n hx hb dX2_firstMisplaced_149 rfl (lv_at hl 4 rfl) ?_
                      refine va_get (D := (dC, dI)) (ci := 3) (v := .ref h3) (C := RX2) (T := TX2) (N := 6) hx hb hts (by decide +kernel) hown hK hP 0 rfl rfl 2 (by decide) (hts (.fieldLink RX2 18 "PictureRows$Runs" "places" "[I") (by decide +kernel)) (fun _ h9 => h9) rfl dX2_firstMisplaced_150 ?_
                      refine lv_iload hx hb dX2_firstMisplaced_153 (lv_at hl 5 rfl) ?_
                      refine rd_iald hx hb hK hP 3 0 rfl rfl (i) (by omega) (by omega) dX2_firstMisplaced_155 ?_
                      exact rd_iret (v := ps i) hx hb hr hlocks (show m_X2_firstMisplaced ss ts ps ks ds sz = ps i from hm10.trans (by simp only [m_X2_firstMisplaced_L10, if_neg c_1, if_neg c_3, if_neg c_4, if_pos c_5, if_pos c_6, if_neg c_7, if_neg c_8])).symm dX2_firstMisplaced_156
                · skip
                  have c_6 := bI_n0 c_6
                  refine lv_aload_n hx hb dX2_firstMisplaced_98 rfl (lv_at hl 2 rfl) ?_
                  refine va_get (D := (dC, dI)) (ci := 3) (v := .ref h3) (C := RX2) (T := TX2) (N := 6) hx hb hts (by decide +kernel) hown hK hP 0 rfl rfl 2 (by decide) (hts (.fieldLink RX2 18 "PictureRows$Runs" "places" "[I") (by decide +kernel)) (fun _ h9 => h9) rfl dX2_firstMisplaced_99 ?_
                  refine lv_iload hx hb dX2_firstMisplaced_102 (lv_at hl 5 rfl) ?_
                  refine rd_iald hx hb hK hP 3 0 rfl rfl (i) (by omega) (by omega) dX2_firstMisplaced_104 ?_
                  exact rd_iret (v := ps i) hx hb hr hlocks (show m_X2_firstMisplaced ss ts ps ks ds sz = ps i from hm10.trans (by simp only [m_X2_firstMisplaced_L10, if_neg c_1, if_neg c_3, if_neg c_4, if_pos c_5, if_neg c_6])).symm dX2_firstMisplaced_105
              · skip
                refine lv_iload_n hx hb dX2_firstMisplaced_80 rfl (lv_at hl 0 rfl) ?_
                refine lv_iload hx hb dX2_firstMisplaced_81 (lv_at hl 1 rfl) ?_
                refine rd_callSN (As := [.int (x1 &&& (tbL.getD (ks i).toNatClampNeg 0)), .int (ks i)]) (rest := []) ⟨hx, hb, hml, hown, hts⟩ hE (c_X4_holds l dC dI (x1 &&& (tbL.getD (ks i).toNatClampNeg 0)) (ks i) ) ⟨va_cnB 2 hts gX2_firstMisplaced_X4_holds_n67 rfl rfl rfl (hE.1.2 ("PictureRows$Runs", 67, yX4_holds) (by decide)) (hts (.initialized RX4) (by decide +kernel)) (by decide +kernel) ⟨Nat.le_of_ble_eq_true rfl, Nat.le_of_ble_eq_true rfl⟩, hts (.static yX4_holds) (by decide +kernel), trivial⟩ (hP.sub (ws' := []) [] rfl) (hK.sub [] rfl) rfl hl.1 rfl (Nat.le_of_ble_eq_true rfl) dX2_firstMisplaced_83 ⟨Nat.zero_le _, Nat.zero_le _⟩ (fun r9 hr9 => ?_)
                subst hr9
                refine lv_if_eq (tgt := 98) hx hb dX2_firstMisplaced_86 (by decide) (fun c_9 => ?_) (fun c_9 => ?_)
                · skip
                  have c_9 := bI_0 c_9
                  refine lv_aload_n hx hb dX2_firstMisplaced_98 rfl (lv_at hl 2 rfl) ?_
                  refine va_get (D := (dC, dI)) (ci := 3) (v := .ref h3) (C := RX2) (T := TX2) (N := 6) hx hb hts (by decide +kernel) hown hK hP 0 rfl rfl 2 (by decide) (hts (.fieldLink RX2 18 "PictureRows$Runs" "places" "[I") (by decide +kernel)) (fun _ h9 => h9) rfl dX2_firstMisplaced_99 ?_
                  refine lv_iload hx hb dX2_firstMisplaced_102 (lv_at hl 5 rfl) ?_
                  refine rd_iald hx hb hK hP 3 0 rfl rfl (i) (by omega) (by omega) dX2_firstMisplaced_104 ?_
                  exact rd_iret (v := ps i) hx hb hr hlocks (show m_X2_firstMisplaced ss ts ps ks ds sz = ps i from hm10.trans (by simp only [m_X2_firstMisplaced_L10, if_neg c_1, if_neg c_3, if_neg c_4, if_neg c_5, if_pos c_9])).symm dX2_firstMisplaced_105
                · skip
                  have c_9 := bI_n0 c_9
                  refine lv_aload_n hx hb dX2_firstMisplaced_89 rfl (lv_at hl 2 rfl) ?_
                  refine lv_iload hx hb dX2_firstMisplaced_90 (lv_at hl 5 rfl) ?_
                  refine rd_callV (As := [.int (nI i)]) (rest := []) ⟨hx, hb, hml, hown, hts⟩ hE (c_X2_hasRivalAhead l dC dI h0 h1 h2 h3 h4 h5 cA sz ss ks i (by omega) (by omega)) (cwV 1 hts gX2_firstMisplaced_X2_hasRivalAhead rfl rfl rfl (by decide +kernel) ⟨Nat.le_of_ble_eq_true rfl, Nat.le_of_ble_eq_true rfl⟩) (hP.sub (ws' := [(h0, .inr (3, [.ref h1, .ref h2, .ref h3, .ref h4, .ref h5, .int (nI sz)])), (h1, .inl (cA, 80, .inl ss)), (h4, .inl (cA, 80, .inl ks))]) [0, 1, 4] rfl) (hK.sub [0] rfl) (va_recv hK hP (ci := 3) (q0 := 0) rfl rfl) rfl hl.1 rfl (Nat.le_of_ble_eq_true rfl) dX2_firstMisplaced_92 ⟨Nat.zero_le _, Nat.zero_le _⟩ (fun r9 hr9 => ?_)
                  subst hr9
                  refine lv_if_eq (tgt := 106) hx hb dX2_firstMisplaced_95 (by decide) (fun c_10 => ?_) (fun c_10 => ?_)
                  · skip
                    have c_10 := bI_0 c_10
                    refine lv_iload_n hx hb dX2_firstMisplaced_106 rfl (lv_at hl 3 rfl) ?_
                    refine lv_aload_n hx hb dX2_firstMisplaced_107 rfl (lv_at hl 2 rfl) ?_
                    refine va_get (D := (dC, dI)) (ci := 3) (v := .ref h5) (C := RX2) (T := TX2) (N := 6) hx hb hts (by decide +kernel) hown hK hP 0 rfl rfl 4 (by decide) (hts (.fieldLink RX2 24 "PictureRows$Runs" "digitCounts" "[I") (by decide +kernel)) (fun _ h9 => h9) rfl dX2_firstMisplaced_108 ?_
                    refine lv_iload hx hb dX2_firstMisplaced_111 (lv_at hl 5 rfl) ?_
                    refine rd_iald hx hb hK hP 5 0 rfl rfl (i) (by omega) (by omega) dX2_firstMisplaced_113 ?_
                    refine lv_iadd hx hb dX2_firstMisplaced_114 ?_
                    refine lv_istore_n (lv' := [(2, .int (x2 + (ds i))), (1, .int (x1 &&& (tbL.getD (ks i).toNatClampNeg 0))), (5, .int (ks i)), (0, .ref h0), (3, .int x3), (4, .int (nI i))]) hx hb dX2_firstMisplaced_115 rfl hl (by decide) rfl (fun ls hl => ?_)
                    refine lv_iload_n hx hb dX2_firstMisplaced_116 rfl (lv_at hl 4 rfl) ?_
                    refine lv_aload_n hx hb dX2_firstMisplaced_117 rfl (lv_at hl 3 rfl) ?_
                    refine va_get (D := (dC, dI)) (ci := 3) (v := .ref h1) (C := RX2) (T := TX2) (N := 6) hx hb hts (by decide +kernel) hown hK hP 0 rfl rfl 0 (by decide) (hts (.fieldLink RX2 9 "PictureRows$Runs" "signs" "[I") (by decide +kernel)) (fun _ h9 => h9) rfl dX2_firstMisplaced_118 ?_
                    refine lv_iload hx hb dX2_firstMisplaced_121 (lv_at hl 5 rfl) ?_
                    refine rd_iald hx hb hK hP 1 0 rfl rfl (i) (by omega) (by omega) dX2_firstMisplaced_123 ?_
                    refine lv_aload_n hx hb dX2_firstMisplaced_124 rfl (lv_at hl 3 rfl) ?_
                    refine va_get (D := (dC, dI)) (ci := 3) (v := .ref h2) (C := RX2) (T := TX2) (N := 6) hx hb hts (by decide +kernel) hown hK hP 0 rfl rfl 1 (by decide) (hts (.fieldLink RX2 15 "PictureRows$Runs" "times" "[I") (by decide +kernel)) (fun _ h9 => h9) rfl dX2_firstMisplaced_125 ?_
                    refine lv_iload hx hb dX2_firstMisplaced_128 (lv_at hl 5 rfl) ?_
                    refine rd_iald hx hb hK hP 2 0 rfl rfl (i) (by omega) (by omega) dX2_firstMisplaced_130 ?_
                    refine rd_callSN (As := [.int (ss i), .int (ts i)]) (rest := [.int x3]) ⟨hx, hb, hml, hown, hts⟩ hE (c_X4_signsCounted l dC dI (ss i) (ts i) ) ⟨va_cnB 2 hts gX2_firstMisplaced_X4_signsCounted_n85 rfl rfl rfl (hE.1.2 ("PictureRows$Runs", 85, yX4_signsCounted) (by decide)) (hts (.initialized RX4) (by decide +kernel)) (by decide +kernel) ⟨Nat.le_of_ble_eq_true rfl, Nat.le_of_ble_eq_true rfl⟩, hts (.static yX4_signsCounted) (by decide +kernel), trivial⟩ (hP.sub (ws' := []) [] rfl) (hK.sub [] rfl) rfl hl.1 rfl (Nat.le_of_ble_eq_true rfl) dX2_firstMisplaced_131 ⟨Nat.zero_le _, Nat.zero_le _⟩ (fun r9 hr9 => ?_)
                    subst hr9
                    refine lv_iadd hx hb dX2_firstMisplaced_134 ?_
                    refine lv_istore_n (lv' := [(3, .int (x3 + (m_X4_signsCounted (ss i) (ts i)))), (2, .int (x2 + (ds i))), (1, .int (x1 &&& (tbL.getD (ks i).toNatClampNeg 0))), (5, .int (ks i)), (0, .ref h0), (4, .int (nI i))]) hx hb dX2_firstMisplaced_135 rfl hl (by decide) rfl (fun ls hl => ?_)
                    refine lv_iload_n hx hb dX2_firstMisplaced_136 rfl (lv_at hl 1 rfl) ?_
                    refine lv_bipush (v := 31) hx hb dX2_firstMisplaced_137 (by decide) ?_
                    refine lv_icmp_gt (tgt := 149) hx hb dX2_firstMisplaced_139 (by decide) (fun c_11 => ?_) (fun c_11 => ?_)
                    · skip
                      refine lv_aload_n hx hb dX2_firstMisplaced_149 rfl (lv_at hl 4 rfl) ?_
                      refine va_get (D := (dC, dI)) (ci := 3) (v := .ref h3) (C := RX2) (T := TX2) (N := 6) hx hb hts (by decide +kernel) hown hK hP 0 rfl rfl 2 (by decide) (hts (.fieldLink RX2 18 "PictureRows$Runs" "places" "[I") (by decide +kernel)) (fun _ h9 => h9) rfl dX2_firstMisplaced_150 ?_
                      refine lv_iload hx hb dX2_firstMisplaced_153 (lv_at hl 5 rfl) ?_
                      refine rd_iald hx hb hK hP 3 0 rfl rfl (i) (by omega) (by omega) dX2_firstMisplaced_155 ?_
                      exact rd_iret (v := ps i) hx hb hr hlocks (show m_X2_firstMisplaced ss ts ps ks ds sz = ps i from hm10.trans (by simp only [m_X2_firstMisplaced_L10, if_neg c_1, if_neg c_3, if_neg c_4, if_neg c_5, if_neg c_9, if_pos c_10, if_pos c_11])).symm dX2_firstMisplaced_156
                    · skip
                      refine lv_iload_n hx hb dX2_firstMisplaced_142 rfl (lv_at hl 0 rfl) ?_
                      refine lv_sipush (v := 9999) hx hb dX2_firstMisplaced_143 (by decide) ?_
                      refine lv_icmp_le (tgt := 157) hx hb dX2_firstMisplaced_146 (by decide) (fun c_12 => ?_) (fun c_12 => ?_)
                      · skip
                        refine lv_iinc (v := nI (i + 1)) (lv' := [(4, .int (nI (i + 1))), (3, .int (x3 + (m_X4_signsCounted (ss i) (ts i)))), (2, .int (x2 + (ds i))), (1, .int (x1 &&& (tbL.getD (ks i).toNatClampNeg 0))), (5, .int (ks i)), (0, .ref h0)]) hx hb dX2_firstMisplaced_157 hl (k := 5) rfl (nI_add (i) 1) (by decide) rfl (fun ls hl => ?_)
                        refine lv_goto (tgt := 10) hx hb dX2_firstMisplaced_160 (by decide) ?_
                        exact ih10 (i + 1) (x1 &&& (tbL.getD (ks i).toNatClampNeg 0)) (x2 + (ds i)) (x3 + (m_X4_signsCounted (ss i) (ts i))) (by omega) (by omega)  (hm10.trans (by simp only [m_X2_firstMisplaced_L10, if_neg c_1, if_neg c_3, if_neg c_4, if_neg c_5, if_neg c_9, if_pos c_10, if_neg c_11, if_pos c_12])) ls (lv_sub hl [5, 3, 2, 1, 0] rfl)
                      · skip
                        refine lv_aload_n hx hb dX2_firstMisplaced_149 rfl (lv_at hl 4 rfl) ?_
                        refine va_get (D := (dC, dI)) (ci := 3) (v := .ref h3) (C := RX2) (T := TX2) (N := 6) hx hb hts (by decide +kernel) hown hK hP 0 rfl rfl 2 (by decide) (hts (.fieldLink RX2 18 "PictureRows$Runs" "places" "[I") (by decide +kernel)) (fun _ h9 => h9) rfl dX2_firstMisplaced_150 ?_
                        refine lv_iload hx hb dX2_firstMisplaced_153 (lv_at hl 5 rfl) ?_
                        refine rd_iald hx hb hK hP 3 0 rfl rfl (i) (by omega) (by omega) dX2_firstMisplaced_155 ?_
                        exact rd_iret (v := ps i) hx hb hr hlocks (show m_X2_firstMisplaced ss ts ps ks ds sz = ps i from hm10.trans (by simp only [m_X2_firstMisplaced_L10, if_neg c_1, if_neg c_3, if_neg c_4, if_neg c_5, if_neg c_9, if_pos c_10, if_neg c_11, if_neg c_12])).symm dX2_firstMisplaced_156
                  · skip
                    have c_10 := bI_n0 c_10
                    refine lv_aload_n hx hb dX2_firstMisplaced_98 rfl (lv_at hl 2 rfl) ?_
                    refine va_get (D := (dC, dI)) (ci := 3) (v := .ref h3) (C := RX2) (T := TX2) (N := 6) hx hb hts (by decide +kernel) hown hK hP 0 rfl rfl 2 (by decide) (hts (.fieldLink RX2 18 "PictureRows$Runs" "places" "[I") (by decide +kernel)) (fun _ h9 => h9) rfl dX2_firstMisplaced_99 ?_
                    refine lv_iload hx hb dX2_firstMisplaced_102 (lv_at hl 5 rfl) ?_
                    refine rd_iald hx hb hK hP 3 0 rfl rfl (i) (by omega) (by omega) dX2_firstMisplaced_104 ?_
                    exact rd_iret (v := ps i) hx hb hr hlocks (show m_X2_firstMisplaced ss ts ps ks ds sz = ps i from hm10.trans (by simp only [m_X2_firstMisplaced_L10, if_neg c_1, if_neg c_3, if_neg c_4, if_neg c_5, if_neg c_9, if_neg c_10])).symm dX2_firstMisplaced_105
            · skip
              have c_4 := bI_0 c_4
              refine lv_aload_n hx hb dX2_firstMisplaced_52 rfl (lv_at hl 1 rfl) ?_
              refine va_get (D := (dC, dI)) (ci := 3) (v := .ref h3) (C := RX2) (T := TX2) (N := 6) hx hb hts (by decide +kernel) hown hK hP 0 rfl rfl 2 (by decide) (hts (.fieldLink RX2 18 "PictureRows$Runs" "places" "[I") (by decide +kernel)) (fun _ h9 => h9) rfl dX2_firstMisplaced_53 ?_
              refine lv_iload hx hb dX2_firstMisplaced_56 (lv_at hl 5 rfl) ?_
              refine rd_iald hx hb hK hP 3 0 rfl rfl (i) (by omega) (by omega) dX2_firstMisplaced_58 ?_
              exact rd_iret (v := ps i) hx hb hr hlocks (show m_X2_firstMisplaced ss ts ps ks ds sz = ps i from hm10.trans (by simp only [m_X2_firstMisplaced_L10, if_neg c_1, if_neg c_3, if_pos c_4])).symm dX2_firstMisplaced_59
  exact lp_10 (sz + 1) (0) 524287 0 0 (by omega) (by omega)  (show m_X2_firstMisplaced ss ts ps ks ds sz = m_X2_firstMisplaced_L10 ss ts ps ks ds sz (sz + 1) 0 524287 0 0 from by simp only [m_X2_firstMisplaced]) ls (lv_sub hl [4, 3, 2, 1, 0] rfl)
def m_X3_closeOf_L4 (cs : Nat → Int32) (len : Nat) (op : Nat) : Nat → Nat → Int32
  | 0, _ => 0
  | k4 + 1, i => if ((op + 1) + 4) < i then ((-1)) else (if (m_X3_characterAt cs len (nI i)) = 41 then (nI i) else (if (m_X3_characterAt cs len (nI i)) < 48 then ((-1)) else (if (m_X3_characterAt cs len (nI i)) ≤ 57 then (m_X3_closeOf_L4 cs len op k4 (i + 1)) else ((-1)))))
def m_X3_closeOf (cs : Nat → Int32) (len : Nat) (op : Nat) : Int32 := m_X3_closeOf_L4 cs len op (op + 6 + 1) (op + 1)
set_option maxHeartbeats 4000000 in
set_option maxRecDepth 100000 in
theorem c_X3_closeOf (l : Launch) (dC : Nat → ClassId) (dI : Nat → Nat → Nat) (h0 : Nat) (h1 : Nat) (cA : ClassId) (cs : Nat → Int32) (len : Nat) (op : Nat) (hop : op ≤ 100) : Met l yX3_closeOf wsX3_closeOf ({ frames := 1, cells := 0, slots := 0, locals := 21 } : Room) (va_Pc [.ref h0, .int (nI op)] (rd_P (dC, dI) vwCl [(h0, .inr (4, [.ref h1, .int (nI len)])), (h1, .inl (cA, 80, .inl cs))] [(cA, .int)])) (vp_Si (fun r => r = m_X3_closeOf cs len op)) 0 0 (fun _ => False) := by
  refine Met.ofW (cc := cX3_closeOf) (maxL := 4) (ret := (some .int)) (by decide) rfl ?_
  intro p e s m args below meth c s₁ B hml hv
  obtain ⟨rfl, hE, hP, hK⟩ := hv
  have hx := B.exec
  have hb := B.bytes
  have hr := B.returns
  have hts := atoms_spec (ws := wsX3_closeOf) B.pre
  have hown : s.vm.findClass RX3 = some m.cls := findClass_of_methodNamed B.named
  have hlocks := B.notSynchronized
  have hl := lv_entry ([.ref h0, .int (nI op)]) (n := 4) (Nat.le_of_ble_eq_true rfl)
  rw [lg_entry_eq]
  generalize (lg_sl ([.ref h0, .int (nI op)]) ++ List.replicate (4 - (lg_sl ([.ref h0, .int (nI op)])).length) Slot.unset).toArray = ls at hl ⊢
  have hl : lv_has ls 4 [(0, .ref h0), (1, .int (nI op))] := hl
  refine lv_iload_n hx hb dX3_closeOf_0 rfl (lv_at hl 1 rfl) ?_
  refine lv_iconst (v := 1) hx hb dX3_closeOf_1 (by decide) ?_
  refine rd_iadd hx hb (op) (1) dX3_closeOf_2 ?_
  refine lv_istore_n (lv' := [(2, .int (nI (op + 1))), (0, .ref h0), (1, .int (nI op))]) hx hb dX3_closeOf_3 rfl hl (by decide) rfl (fun ls hl => ?_)
  have lp_4 : ∀ (k4 i : Nat), i ≤ op + 6 → op + 6 + 1 ≤ i + k4 → m_X3_closeOf cs len op = m_X3_closeOf_L4 cs len op k4 i → ∀ (ls : Array Slot), lv_has ls 4 [(0, .ref h0), (1, .int (nI op)), (2, .int (nI i))] → W p l e (headSpec wsX3_closeOf ({ frames := 1, cells := 0, slots := 0, locals := 21 } : Room)).room s m (([.ref h0, .int (nI op)] : List Value).toArray) below meth c s.heap [] 0 0 (MQ below (vp_Si (fun r => r = m_X3_closeOf cs len op)) (([.ref h0, .int (nI op)] : List Value).toArray) s 0 0 (fun _ => False)) (F0 m 4 ls []) := by
    intro k4
    induction k4 with
    | zero => intro i  h1_ h2_; exfalso; omega
    | succ k4 ih4 =>
      intro i  hb4 hf4  hm4 ls hl
      refine lv_iload_n hx hb dX3_closeOf_4 rfl (lv_at hl 2 rfl) ?_
      refine lv_iload_n hx hb dX3_closeOf_5 rfl (lv_at hl 1 rfl) ?_
      refine lv_iconst (v := 1) hx hb dX3_closeOf_6 (by decide) ?_
      refine rd_iadd hx hb (op) (1) dX3_closeOf_7 ?_
      refine lv_iconst (v := 4) hx hb dX3_closeOf_8 (by decide) ?_
      refine rd_iadd hx hb (op + 1) (4) dX3_closeOf_9 ?_
      refine lv_icmp_gt (tgt := 47) hx hb dX3_closeOf_10 (by decide) (fun c_1 => ?_) (fun c_1 => ?_)
      · skip
        have c_1 : ((op + 1) + 4) < i := (nI_ltI (a := (op + 1) + 4) (b := i) (by omega) (by omega)).mp c_1
        refine lv_iconst (v := (-1)) hx hb dX3_closeOf_47 (by decide) ?_
        exact rd_iret (v := (-1)) hx hb hr hlocks (show m_X3_closeOf cs len op = (-1) from hm4.trans (by simp only [m_X3_closeOf_L4, if_pos c_1])).symm dX3_closeOf_48
      · skip
        have c_1 : ¬ ((op + 1) + 4) < i := (fun q_ => c_1 ((nI_ltI (a := (op + 1) + 4) (b := i) (by omega) (by omega)).mpr q_))
        refine lv_aload_n hx hb dX3_closeOf_13 rfl (lv_at hl 0 rfl) ?_
        refine lv_iload_n hx hb dX3_closeOf_14 rfl (lv_at hl 2 rfl) ?_
        refine rd_callV (As := [.int (nI i)]) (rest := []) ⟨hx, hb, hml, hown, hts⟩ hE (c_X3_characterAt l dC dI h0 h1 cA cs len (nI i) ) (cwV 1 hts gX3_closeOf_X3_characterAt rfl rfl rfl (by decide +kernel) ⟨Nat.le_of_ble_eq_true rfl, Nat.le_of_ble_eq_true rfl⟩) (hP.sub (ws' := [(h0, .inr (4, [.ref h1, .int (nI len)])), (h1, .inl (cA, 80, .inl cs))]) [0, 1] rfl) (hK.sub [0] rfl) (va_recv hK hP (ci := 4) (q0 := 0) rfl rfl) rfl hl.1 rfl (Nat.le_of_ble_eq_true rfl) dX3_closeOf_15 ⟨Nat.zero_le _, Nat.zero_le _⟩ (fun r9 hr9 => ?_)
        subst hr9
        refine lv_istore_n (lv' := [(3, .int (m_X3_characterAt cs len (nI i))), (0, .ref h0), (1, .int (nI op)), (2, .int (nI i))]) hx hb dX3_closeOf_18 rfl hl (by decide) rfl (fun ls hl => ?_)
        refine lv_iload_n hx hb dX3_closeOf_19 rfl (lv_at hl 0 rfl) ?_
        refine lv_bipush (v := 41) hx hb dX3_closeOf_20 (by decide) ?_
        refine lv_icmp_ne (tgt := 27) hx hb dX3_closeOf_22 (by decide) (fun c_2 => ?_) (fun c_2 => ?_)
        · skip
          refine lv_iload_n hx hb dX3_closeOf_27 rfl (lv_at hl 0 rfl) ?_
          refine lv_bipush (v := 48) hx hb dX3_closeOf_28 (by decide) ?_
          refine lv_icmp_lt (tgt := 39) hx hb dX3_closeOf_30 (by decide) (fun c_3 => ?_) (fun c_3 => ?_)
          · skip
            refine lv_iconst (v := (-1)) hx hb dX3_closeOf_39 (by decide) ?_
            exact rd_iret (v := (-1)) hx hb hr hlocks (show m_X3_closeOf cs len op = (-1) from hm4.trans (by simp only [m_X3_closeOf_L4, if_neg c_1, if_neg c_2, if_pos c_3])).symm dX3_closeOf_40
          · skip
            refine lv_iload_n hx hb dX3_closeOf_33 rfl (lv_at hl 0 rfl) ?_
            refine lv_bipush (v := 57) hx hb dX3_closeOf_34 (by decide) ?_
            refine lv_icmp_le (tgt := 41) hx hb dX3_closeOf_36 (by decide) (fun c_4 => ?_) (fun c_4 => ?_)
            · skip
              refine lv_iinc (v := nI (i + 1)) (lv' := [(2, .int (nI (i + 1))), (3, .int (m_X3_characterAt cs len (nI i))), (0, .ref h0), (1, .int (nI op))]) hx hb dX3_closeOf_41 hl (k := 3) rfl (nI_add (i) 1) (by decide) rfl (fun ls hl => ?_)
              refine lv_goto (tgt := 4) hx hb dX3_closeOf_44 (by decide) ?_
              exact ih4 (i + 1)  (by omega) (by omega)  (hm4.trans (by simp only [m_X3_closeOf_L4, if_neg c_1, if_neg c_2, if_neg c_3, if_pos c_4])) ls (lv_sub hl [2, 3, 0] rfl)
            · skip
              refine lv_iconst (v := (-1)) hx hb dX3_closeOf_39 (by decide) ?_
              exact rd_iret (v := (-1)) hx hb hr hlocks (show m_X3_closeOf cs len op = (-1) from hm4.trans (by simp only [m_X3_closeOf_L4, if_neg c_1, if_neg c_2, if_neg c_3, if_neg c_4])).symm dX3_closeOf_40
        · skip
          refine lv_iload_n hx hb dX3_closeOf_25 rfl (lv_at hl 3 rfl) ?_
          exact rd_iret (v := nI i) hx hb hr hlocks (show m_X3_closeOf cs len op = nI i from hm4.trans (by simp only [m_X3_closeOf_L4, if_neg c_1, if_pos c_2])).symm dX3_closeOf_26
  exact lp_4 (op + 6 + 1) (op + 1)  (by omega) (by omega)  (show m_X3_closeOf cs len op = m_X3_closeOf_L4 cs len op (op + 6 + 1) (op + 1) from by simp only [m_X3_closeOf]) ls (lv_sub hl [1, 2, 0] rfl)
def m_X3_numberBetween_L7 (cs : Nat → Int32) (len : Nat) (op : Nat) (cl : Int32) : Nat → Nat → Int32 → Int32
  | 0, _, _ => 0
  | k7 + 1, i, x3 => if cl ≤ (nI i) then x3 else (m_X3_numberBetween_L7 cs len op cl k7 (i + 1) (((x3 * 10) + (m_X3_characterAt cs len (nI i))) - 48))
def m_X3_numberBetween (cs : Nat → Int32) (len : Nat) (op : Nat) (cl : Int32) : Int32 := m_X3_numberBetween_L7 cs len op cl (200 + 1) (op + 1) 0
set_option maxHeartbeats 4000000 in
set_option maxRecDepth 100000 in
theorem c_X3_numberBetween (l : Launch) (dC : Nat → ClassId) (dI : Nat → Nat → Nat) (h0 : Nat) (h1 : Nat) (cA : ClassId) (cs : Nat → Int32) (len : Nat) (op : Nat) (cl : Int32) (hop : op ≤ 100) (hcl : cl.toInt ≤ (200 : Nat)) : Met l yX3_numberBetween wsX3_numberBetween ({ frames := 1, cells := 0, slots := 0, locals := 21 } : Room) (va_Pc [.ref h0, .int (nI op), .int cl] (rd_P (dC, dI) vwCl [(h0, .inr (4, [.ref h1, .int (nI len)])), (h1, .inl (cA, 80, .inl cs))] [(cA, .int)])) (vp_Si (fun r => r = m_X3_numberBetween cs len op cl)) 0 0 (fun _ => False) := by
  refine Met.ofW (cc := cX3_numberBetween) (maxL := 5) (ret := (some .int)) (by decide) rfl ?_
  intro p e s m args below meth c s₁ B hml hv
  obtain ⟨rfl, hE, hP, hK⟩ := hv
  have hx := B.exec
  have hb := B.bytes
  have hr := B.returns
  have hts := atoms_spec (ws := wsX3_numberBetween) B.pre
  have hown : s.vm.findClass RX3 = some m.cls := findClass_of_methodNamed B.named
  have hlocks := B.notSynchronized
  have hl := lv_entry ([.ref h0, .int (nI op), .int cl]) (n := 5) (Nat.le_of_ble_eq_true rfl)
  rw [lg_entry_eq]
  generalize (lg_sl ([.ref h0, .int (nI op), .int cl]) ++ List.replicate (5 - (lg_sl ([.ref h0, .int (nI op), .int cl])).length) Slot.unset).toArray = ls at hl ⊢
  have hl : lv_has ls 5 [(0, .ref h0), (1, .int (nI op)), (2, .int cl)] := hl
  refine lv_iconst (v := 0) hx hb dX3_numberBetween_0 (by decide) ?_
  refine lv_istore_n (lv' := [(3, .int 0), (0, .ref h0), (1, .int (nI op)), (2, .int cl)]) hx hb dX3_numberBetween_1 rfl hl (by decide) rfl (fun ls hl => ?_)
  refine lv_iload_n hx hb dX3_numberBetween_2 rfl (lv_at hl 2 rfl) ?_
  refine lv_iconst (v := 1) hx hb dX3_numberBetween_3 (by decide) ?_
  refine rd_iadd hx hb (op) (1) dX3_numberBetween_4 ?_
  refine lv_istore (lv' := [(4, .int (nI (op + 1))), (3, .int 0), (0, .ref h0), (1, .int (nI op)), (2, .int cl)]) hx hb dX3_numberBetween_5 hl (by decide) rfl (fun ls hl => ?_)
  have lp_7 : ∀ (k7 i : Nat) (x3 : Int32), i ≤ 200 → 200 + 1 ≤ i + k7 → m_X3_numberBetween cs len op cl = m_X3_numberBetween_L7 cs len op cl k7 i x3 → ∀ (ls : Array Slot), lv_has ls 5 [(0, .ref h0), (1, .int (nI op)), (2, .int cl), (3, .int x3), (4, .int (nI i))] → W p l e (headSpec wsX3_numberBetween ({ frames := 1, cells := 0, slots := 0, locals := 21 } : Room)).room s m (([.ref h0, .int (nI op), .int cl] : List Value).toArray) below meth c s.heap [] 0 0 (MQ below (vp_Si (fun r => r = m_X3_numberBetween cs len op cl)) (([.ref h0, .int (nI op), .int cl] : List Value).toArray) s 0 0 (fun _ => False)) (F0 m 7 ls []) := by
    intro k7
    induction k7 with
    | zero => intro i x3 h1_ h2_; exfalso; omega
    | succ k7 ih7 =>
      intro i x3 hb7 hf7  hm7 ls hl
      refine lv_iload hx hb dX3_numberBetween_7 (lv_at hl 4 rfl) ?_
      refine lv_iload_n hx hb dX3_numberBetween_9 rfl (lv_at hl 2 rfl) ?_
      refine lv_icmp_ge (tgt := 34) hx hb dX3_numberBetween_10 (by decide) (fun c_1 => ?_) (fun c_1 => ?_)
      · skip
        refine lv_iload_n hx hb dX3_numberBetween_34 rfl (lv_at hl 3 rfl) ?_
        exact rd_iret (v := x3) hx hb hr hlocks (show m_X3_numberBetween cs len op cl = x3 from hm7.trans (by simp only [m_X3_numberBetween_L7, if_pos c_1])).symm dX3_numberBetween_35
      · skip
        refine lv_iload_n hx hb dX3_numberBetween_13 rfl (lv_at hl 3 rfl) ?_
        refine lv_bipush (v := 10) hx hb dX3_numberBetween_14 (by decide) ?_
        refine lv_imul hx hb dX3_numberBetween_16 ?_
        refine lv_aload_n hx hb dX3_numberBetween_17 rfl (lv_at hl 0 rfl) ?_
        refine lv_iload hx hb dX3_numberBetween_18 (lv_at hl 4 rfl) ?_
        refine rd_callV (As := [.int (nI i)]) (rest := [.int (x3 * 10)]) ⟨hx, hb, hml, hown, hts⟩ hE (c_X3_characterAt l dC dI h0 h1 cA cs len (nI i) ) (cwV 1 hts gX3_numberBetween_X3_characterAt rfl rfl rfl (by decide +kernel) ⟨Nat.le_of_ble_eq_true rfl, Nat.le_of_ble_eq_true rfl⟩) (hP.sub (ws' := [(h0, .inr (4, [.ref h1, .int (nI len)])), (h1, .inl (cA, 80, .inl cs))]) [0, 1] rfl) (hK.sub [0] rfl) (va_recv hK hP (ci := 4) (q0 := 0) rfl rfl) rfl hl.1 rfl (Nat.le_of_ble_eq_true rfl) dX3_numberBetween_20 ⟨Nat.zero_le _, Nat.zero_le _⟩ (fun r9 hr9 => ?_)
        subst hr9
        refine lv_iadd hx hb dX3_numberBetween_23 ?_
        refine lv_bipush (v := 48) hx hb dX3_numberBetween_24 (by decide) ?_
        refine lv_isub hx hb dX3_numberBetween_26 ?_
        refine lv_istore_n (lv' := [(3, .int (((x3 * 10) + (m_X3_characterAt cs len (nI i))) - 48)), (0, .ref h0), (1, .int (nI op)), (2, .int cl), (4, .int (nI i))]) hx hb dX3_numberBetween_27 rfl hl (by decide) rfl (fun ls hl => ?_)
        refine lv_iinc (v := nI (i + 1)) (lv' := [(4, .int (nI (i + 1))), (3, .int (((x3 * 10) + (m_X3_characterAt cs len (nI i))) - 48)), (0, .ref h0), (1, .int (nI op)), (2, .int cl)]) hx hb dX3_numberBetween_28 hl (k := 4) rfl (nI_add (i) 1) (by decide) rfl (fun ls hl => ?_)
        refine lv_goto (tgt := 7) hx hb dX3_numberBetween_31 (by decide) ?_
        exact ih7 (i + 1) (((x3 * 10) + (m_X3_characterAt cs len (nI i))) - 48) (by exact nb_lt (by assumption) hcl (by omega) hb7) (by omega)  (hm7.trans (by simp only [m_X3_numberBetween_L7, if_neg c_1])) ls (lv_sub hl [2, 3, 4, 1, 0] rfl)
  exact lp_7 (200 + 1) (op + 1) 0 (by omega) (by omega)  (show m_X3_numberBetween cs len op cl = m_X3_numberBetween_L7 cs len op cl (200 + 1) (op + 1) 0 from by simp only [m_X3_numberBetween]) ls (lv_sub hl [2, 3, 4, 1, 0] rfl)
def m_X1_isNumber (cat : Int32) : Bool := if cat = 3 then true else (if cat = 4 then true else false)
set_option maxHeartbeats 4000000 in
set_option maxRecDepth 100000 in
theorem c_X1_isNumber (l : Launch) (dC : Nat → ClassId) (dI : Nat → Nat → Nat) (h0 : Nat) (h1 : Nat) (h2 : Nat) (h3 : Nat) (h4 : Nat) (cu : Int32) (sc : Int32) (da : Int32) (db : Int32) (scl : Int32) (cat : Int32) : Met l yX1_isNumber wsX1_isNumber ({ frames := 0, cells := 0, slots := 0, locals := 0 } : Room) (va_Pc [.ref h0] (rd_P (dC, dI) vwCl [(h0, .inr (2, [.ref h1, .ref h2, .ref h3, .int cu, .int sc, .int cat, .int da, .int db, .int scl, .ref h4]))] [])) (vp_Si (fun r => r = bI (m_X1_isNumber cat))) 0 0 (fun _ => False) := by
  refine Met.ofW (cc := cX1_isNumber) (maxL := 1) (ret := (some .boolean)) (by decide) rfl ?_
  intro p e s m args below meth c s₁ B hml hv
  obtain ⟨rfl, hE, hP, hK⟩ := hv
  have hx := B.exec
  have hb := B.bytes
  have hr := B.returns
  have hts := atoms_spec (ws := wsX1_isNumber) B.pre
  have hown : s.vm.findClass RX1 = some m.cls := findClass_of_methodNamed B.named
  have hlocks := B.notSynchronized
  have hl := lv_entry ([.ref h0]) (n := 1) (Nat.le_of_ble_eq_true rfl)
  rw [lg_entry_eq]
  generalize (lg_sl ([.ref h0]) ++ List.replicate (1 - (lg_sl ([.ref h0])).length) Slot.unset).toArray = ls at hl ⊢
  have hl : lv_has ls 1 [(0, .ref h0)] := hl
  refine lv_aload_n hx hb dX1_isNumber_0 rfl (lv_at hl 0 rfl) ?_
  refine va_get (D := (dC, dI)) (ci := 2) (v := .int cat) (C := RX1) (T := TX1) (N := 10) hx hb hts (by decide +kernel) hown hK hP 0 rfl rfl 5 (by decide) (hts (.fieldLink RX1 62 "PictureRows$Picture" "category" "I") (by decide +kernel)) (fun _ h9 => h9) rfl dX1_isNumber_1 ?_
  refine lv_iconst (v := 3) hx hb dX1_isNumber_4 (by decide) ?_
  refine lv_icmp_eq (tgt := 16) hx hb dX1_isNumber_5 (by decide) (fun c_1 => ?_) (fun c_1 => ?_)
  · skip
    refine lv_iconst (v := 1) hx hb dX1_isNumber_16 (by decide) ?_
    refine lv_goto (tgt := 21) hx hb dX1_isNumber_17 (by decide) ?_
    exact rd_zret (v := 1) hx hb hr hlocks rfl (by rw [(show m_X1_isNumber cat = true from by simp only [m_X1_isNumber, if_pos c_1])]; rfl) dX1_isNumber_21
  · skip
    refine lv_aload_n hx hb dX1_isNumber_8 rfl (lv_at hl 0 rfl) ?_
    refine va_get (D := (dC, dI)) (ci := 2) (v := .int cat) (C := RX1) (T := TX1) (N := 10) hx hb hts (by decide +kernel) hown hK hP 0 rfl rfl 5 (by decide) (hts (.fieldLink RX1 62 "PictureRows$Picture" "category" "I") (by decide +kernel)) (fun _ h9 => h9) rfl dX1_isNumber_9 ?_
    refine lv_iconst (v := 4) hx hb dX1_isNumber_12 (by decide) ?_
    refine lv_icmp_ne (tgt := 20) hx hb dX1_isNumber_13 (by decide) (fun c_2 => ?_) (fun c_2 => ?_)
    · skip
      refine lv_iconst (v := 0) hx hb dX1_isNumber_20 (by decide) ?_
      exact rd_zret (v := 0) hx hb hr hlocks rfl (by rw [(show m_X1_isNumber cat = false from by simp only [m_X1_isNumber, if_neg c_1, if_neg c_2])]; rfl) dX1_isNumber_21
    · skip
      refine lv_iconst (v := 1) hx hb dX1_isNumber_16 (by decide) ?_
      refine lv_goto (tgt := 21) hx hb dX1_isNumber_17 (by decide) ?_
      exact rd_zret (v := 1) hx hb hr hlocks rfl (by rw [(show m_X1_isNumber cat = true from by simp only [m_X1_isNumber, if_neg c_1, if_pos c_2])]; rfl) dX1_isNumber_21
def m_X1_letterOf (cu : Int32) (sg : Int32) (ix : Int32) : Int32 := if sg = 36 then cu else (if sg = 67 then (if (ix - ix / 2 * 2) = 0 then 67 else 82) else (if sg = 68 then (if (ix - ix / 2 * 2) = 0 then 68 else 66) else sg))
set_option maxHeartbeats 4000000 in
set_option maxRecDepth 100000 in
theorem c_X1_letterOf (l : Launch) (dC : Nat → ClassId) (dI : Nat → Nat → Nat) (h0 : Nat) (h1 : Nat) (h2 : Nat) (h3 : Nat) (h4 : Nat) (sc : Int32) (cat : Int32) (da : Int32) (db : Int32) (scl : Int32) (cu : Int32) (sg : Int32) (ix : Int32) : Met l yX1_letterOf wsX1_letterOf ({ frames := 0, cells := 0, slots := 0, locals := 0 } : Room) (va_Pc [.ref h0, .int sg, .int ix] (rd_P (dC, dI) vwCl [(h0, .inr (2, [.ref h1, .ref h2, .ref h3, .int cu, .int sc, .int cat, .int da, .int db, .int scl, .ref h4]))] [])) (vp_Si (fun r => r = m_X1_letterOf cu sg ix)) 0 0 (fun _ => False) := by
  refine Met.ofW (cc := cX1_letterOf) (maxL := 3) (ret := (some .int)) (by decide) rfl ?_
  intro p e s m args below meth c s₁ B hml hv
  obtain ⟨rfl, hE, hP, hK⟩ := hv
  have hx := B.exec
  have hb := B.bytes
  have hr := B.returns
  have hts := atoms_spec (ws := wsX1_letterOf) B.pre
  have hown : s.vm.findClass RX1 = some m.cls := findClass_of_methodNamed B.named
  have hlocks := B.notSynchronized
  have hl := lv_entry ([.ref h0, .int sg, .int ix]) (n := 3) (Nat.le_of_ble_eq_true rfl)
  rw [lg_entry_eq]
  generalize (lg_sl ([.ref h0, .int sg, .int ix]) ++ List.replicate (3 - (lg_sl ([.ref h0, .int sg, .int ix])).length) Slot.unset).toArray = ls at hl ⊢
  have hl : lv_has ls 3 [(0, .ref h0), (1, .int sg), (2, .int ix)] := hl
  refine lv_iload_n hx hb dX1_letterOf_0 rfl (lv_at hl 1 rfl) ?_
  by_cases c_1 : sg = 36
  · skip
    refine lv_lookup (off := 35) (tgt := 36) hx hb dX1_letterOf_1 (by decide) (by rw [c_1]; decide) (by decide) ?_
    refine lv_aload_n hx hb dX1_letterOf_36 rfl (lv_at hl 0 rfl) ?_
    refine va_get (D := (dC, dI)) (ci := 2) (v := .int cu) (C := RX1) (T := TX1) (N := 10) hx hb hts (by decide +kernel) hown hK hP 0 rfl rfl 3 (by decide) (hts (.fieldLink RX1 49 "PictureRows$Picture" "currencySign" "I") (by decide +kernel)) (fun _ h9 => h9) rfl dX1_letterOf_37 ?_
    exact rd_iret (v := cu) hx hb hr hlocks (show m_X1_letterOf cu sg ix = cu from by simp only [m_X1_letterOf, if_pos c_1]).symm dX1_letterOf_40
  by_cases c_2 : sg = 67
  · skip
    refine lv_lookup (off := 40) (tgt := 41) hx hb dX1_letterOf_1 (by decide) (by rw [c_2]; decide) (by decide) ?_
    refine lv_iload_n hx hb dX1_letterOf_41 rfl (lv_at hl 2 rfl) ?_
    refine lv_iconst (v := 2) hx hb dX1_letterOf_42 (by decide) ?_
    refine lv_irem hx hb dX1_letterOf_43 (by decide) ?_
    refine lv_if_ne (tgt := 52) hx hb dX1_letterOf_44 (by decide) (fun c_3 => ?_) (fun c_3 => ?_)
    · skip
      refine lv_bipush (v := 82) hx hb dX1_letterOf_52 (by decide) ?_
      exact rd_iret (v := 82) hx hb hr hlocks (show m_X1_letterOf cu sg ix = 82 from by simp only [m_X1_letterOf, if_neg c_1, if_pos c_2, if_neg c_3]).symm dX1_letterOf_54
    · skip
      refine lv_bipush (v := 67) hx hb dX1_letterOf_47 (by decide) ?_
      refine lv_goto (tgt := 54) hx hb dX1_letterOf_49 (by decide) ?_
      exact rd_iret (v := 67) hx hb hr hlocks (show m_X1_letterOf cu sg ix = 67 from by simp only [m_X1_letterOf, if_neg c_1, if_pos c_2, if_pos c_3]).symm dX1_letterOf_54
  by_cases c_4 : sg = 68
  · skip
    refine lv_lookup (off := 54) (tgt := 55) hx hb dX1_letterOf_1 (by decide) (by rw [c_4]; decide) (by decide) ?_
    refine lv_iload_n hx hb dX1_letterOf_55 rfl (lv_at hl 2 rfl) ?_
    refine lv_iconst (v := 2) hx hb dX1_letterOf_56 (by decide) ?_
    refine lv_irem hx hb dX1_letterOf_57 (by decide) ?_
    refine lv_if_ne (tgt := 66) hx hb dX1_letterOf_58 (by decide) (fun c_5 => ?_) (fun c_5 => ?_)
    · skip
      refine lv_bipush (v := 66) hx hb dX1_letterOf_66 (by decide) ?_
      exact rd_iret (v := 66) hx hb hr hlocks (show m_X1_letterOf cu sg ix = 66 from by simp only [m_X1_letterOf, if_neg c_1, if_neg c_2, if_pos c_4, if_neg c_5]).symm dX1_letterOf_68
    · skip
      refine lv_bipush (v := 68) hx hb dX1_letterOf_61 (by decide) ?_
      refine lv_goto (tgt := 68) hx hb dX1_letterOf_63 (by decide) ?_
      exact rd_iret (v := 68) hx hb hr hlocks (show m_X1_letterOf cu sg ix = 68 from by simp only [m_X1_letterOf, if_neg c_1, if_neg c_2, if_pos c_4, if_pos c_5]).symm dX1_letterOf_68
  refine lv_lookup (off := 68) (tgt := 69) hx hb dX1_letterOf_1 (by decide) (by show Op.lookupswitch.offset [(36, 35), (67, 40), (68, 54)] _ _ = _; rw [lv_osw c_1 (by decide), lv_osw c_2 (by decide), lv_osw c_4 (by decide)]; rfl) (by decide) ?_
  refine lv_iload_n hx hb dX1_letterOf_69 rfl (lv_at hl 1 rfl) ?_
  exact rd_iret (v := sg) hx hb hr hlocks (show m_X1_letterOf cu sg ix = sg from by simp only [m_X1_letterOf, if_neg c_1, if_neg c_2, if_neg c_4]).symm dX1_letterOf_70
def m_X1_characterAt_L10 (ss : Nat → Int32) (ts : Nat → Int32) (n : Nat) (cu : Int32) (ix : Int32) : Nat → Nat → Int32 → Int32
  | 0, _, _ => 0
  | k10 + 1, i, x2 => if n ≤ i then ((-1)) else (if ((ts i) * (m_X4_widthOf (ss i))) ≤ x2 then (m_X1_characterAt_L10 ss ts n cu ix k10 (i + 1) (x2 - ((ts i) * (m_X4_widthOf (ss i))))) else (m_X1_letterOf cu (ss i) x2))
def m_X1_characterAt (ss : Nat → Int32) (ts : Nat → Int32) (n : Nat) (cu : Int32) (ix : Int32) : Int32 := if 0 ≤ ix then (m_X1_characterAt_L10 ss ts n cu ix (n + 1) 0 ix) else ((-1))
set_option maxHeartbeats 4000000 in
set_option maxRecDepth 100000 in
theorem c_X1_characterAt (l : Launch) (dC : Nat → ClassId) (dI : Nat → Nat → Nat) (h0 : Nat) (h1 : Nat) (h2 : Nat) (h3 : Nat) (h4 : Nat) (cA : ClassId) (sc : Int32) (cat : Int32) (da : Int32) (db : Int32) (scl : Int32) (ss : Nat → Int32) (ts : Nat → Int32) (n : Nat) (cu : Int32) (ix : Int32) (hn : n ≤ 80) : Met l yX1_characterAt wsX1_characterAt ({ frames := 1, cells := 0, slots := 0, locals := 22 } : Room) (va_Pc [.ref h0, .int ix] (rd_P (dC, dI) vwCl [(h0, .inr (2, [.ref h1, .ref h2, .ref h3, .int cu, .int sc, .int cat, .int da, .int db, .int scl, .ref h4])), (h1, .inl (cA, n, .inl ss)), (h2, .inl (cA, n, .inl ts))] [(cA, .int)])) (vp_Si (fun r => r = m_X1_characterAt ss ts n cu ix)) 0 0 (fun _ => False) := by
  refine Met.ofW (cc := cX1_characterAt) (maxL := 5) (ret := (some .int)) (by decide) rfl ?_
  intro p e s m args below meth c s₁ B hml hv
  obtain ⟨rfl, hE, hP, hK⟩ := hv
  have hx := B.exec
  have hb := B.bytes
  have hr := B.returns
  have hts := atoms_spec (ws := wsX1_characterAt) B.pre
  have hown : s.vm.findClass RX1 = some m.cls := findClass_of_methodNamed B.named
  have hlocks := B.notSynchronized
  have hl := lv_entry ([.ref h0, .int ix]) (n := 5) (Nat.le_of_ble_eq_true rfl)
  rw [lg_entry_eq]
  generalize (lg_sl ([.ref h0, .int ix]) ++ List.replicate (5 - (lg_sl ([.ref h0, .int ix])).length) Slot.unset).toArray = ls at hl ⊢
  have hl : lv_has ls 5 [(0, .ref h0), (1, .int ix)] := hl
  refine lv_iload_n hx hb dX1_characterAt_0 rfl (lv_at hl 1 rfl) ?_
  refine lv_if_ge (tgt := 6) hx hb dX1_characterAt_1 (by decide) (fun c_1 => ?_) (fun c_1 => ?_)
  · skip
    refine lv_iload_n hx hb dX1_characterAt_6 rfl (lv_at hl 1 rfl) ?_
    refine lv_istore_n (lv' := [(2, .int ix), (0, .ref h0), (1, .int ix)]) hx hb dX1_characterAt_7 rfl hl (by decide) rfl (fun ls hl => ?_)
    refine lv_iconst (v := 0) hx hb dX1_characterAt_8 (by decide) ?_
    refine lv_istore_n (lv' := [(3, .int 0), (2, .int ix), (0, .ref h0), (1, .int ix)]) hx hb dX1_characterAt_9 rfl hl (by decide) rfl (fun ls hl => ?_)
    have lp_10 : ∀ (k10 i : Nat) (x2 : Int32), i ≤ n → n + 1 ≤ i + k10 → m_X1_characterAt ss ts n cu ix = m_X1_characterAt_L10 ss ts n cu ix k10 i x2 → ∀ (ls : Array Slot), lv_has ls 5 [(0, .ref h0), (1, .int ix), (2, .int x2), (3, .int (nI i))] → W p l e (headSpec wsX1_characterAt ({ frames := 1, cells := 0, slots := 0, locals := 22 } : Room)).room s m (([.ref h0, .int ix] : List Value).toArray) below meth c s.heap [] 0 0 (MQ below (vp_Si (fun r => r = m_X1_characterAt ss ts n cu ix)) (([.ref h0, .int ix] : List Value).toArray) s 0 0 (fun _ => False)) (F0 m 10 ls []) := by
      intro k10
      induction k10 with
      | zero => intro i x2 h1_ h2_; exfalso; omega
      | succ k10 ih10 =>
        intro i x2 hb10 hf10  hm10 ls hl
        refine lv_iload_n hx hb dX1_characterAt_10 rfl (lv_at hl 3 rfl) ?_
        refine lv_aload_n hx hb dX1_characterAt_11 rfl (lv_at hl 0 rfl) ?_
        refine va_get (D := (dC, dI)) (ci := 2) (v := .ref h1) (C := RX1) (T := TX1) (N := 10) hx hb hts (by decide +kernel) hown hK hP 0 rfl rfl 0 (by decide) (hts (.fieldLink RX1 38 "PictureRows$Picture" "signs" "[I") (by decide +kernel)) (fun _ h9 => h9) rfl dX1_characterAt_12 ?_
        refine va_alen (v := nI n) hx hb hK hP 1 0 rfl rfl rfl dX1_characterAt_15 ?_
        refine lv_icmp_ge (tgt := 75) hx hb dX1_characterAt_16 (by decide) (fun c_2 => ?_) (fun c_2 => ?_)
        · skip
          have c_2 : n ≤ i := (nI_leI (a := n) (b := i) (by omega) (by omega)).mp c_2
          refine lv_iconst (v := (-1)) hx hb dX1_characterAt_75 (by decide) ?_
          exact rd_iret (v := (-1)) hx hb hr hlocks (show m_X1_characterAt ss ts n cu ix = (-1) from hm10.trans (by simp only [m_X1_characterAt_L10, if_pos c_2])).symm dX1_characterAt_76
        · skip
          have c_2 : ¬ n ≤ i := (fun q_ => c_2 ((nI_leI (a := n) (b := i) (by omega) (by omega)).mpr q_))
          refine lv_iload_n hx hb dX1_characterAt_19 rfl (lv_at hl 3 rfl) ?_
          refine lv_aload_n hx hb dX1_characterAt_20 rfl (lv_at hl 0 rfl) ?_
          refine va_get (D := (dC, dI)) (ci := 2) (v := .ref h2) (C := RX1) (T := TX1) (N := 10) hx hb hts (by decide +kernel) hown hK hP 0 rfl rfl 1 (by decide) (hts (.fieldLink RX1 44 "PictureRows$Picture" "times" "[I") (by decide +kernel)) (fun _ h9 => h9) rfl dX1_characterAt_21 ?_
          refine va_alen (v := nI n) hx hb hK hP 2 0 rfl rfl rfl dX1_characterAt_24 ?_
          refine lv_icmp_ge (tgt := 75) hx hb dX1_characterAt_25 (by decide) (fun c_3 => ?_) (fun c_3 => ?_)
          · skip
            have c_3 : n ≤ i := (nI_leI (a := n) (b := i) (by omega) (by omega)).mp c_3
            exfalso; omega
          · skip
            have c_3 : ¬ n ≤ i := (fun q_ => c_3 ((nI_leI (a := n) (b := i) (by omega) (by omega)).mpr q_))
            refine lv_aload_n hx hb dX1_characterAt_28 rfl (lv_at hl 0 rfl) ?_
            refine va_get (D := (dC, dI)) (ci := 2) (v := .ref h2) (C := RX1) (T := TX1) (N := 10) hx hb hts (by decide +kernel) hown hK hP 0 rfl rfl 1 (by decide) (hts (.fieldLink RX1 44 "PictureRows$Picture" "times" "[I") (by decide +kernel)) (fun _ h9 => h9) rfl dX1_characterAt_29 ?_
            refine lv_iload_n hx hb dX1_characterAt_32 rfl (lv_at hl 3 rfl) ?_
            refine rd_iald hx hb hK hP 2 0 rfl rfl (i) (by omega) (by omega) dX1_characterAt_33 ?_
            refine lv_aload_n hx hb dX1_characterAt_34 rfl (lv_at hl 0 rfl) ?_
            refine va_get (D := (dC, dI)) (ci := 2) (v := .ref h1) (C := RX1) (T := TX1) (N := 10) hx hb hts (by decide +kernel) hown hK hP 0 rfl rfl 0 (by decide) (hts (.fieldLink RX1 38 "PictureRows$Picture" "signs" "[I") (by decide +kernel)) (fun _ h9 => h9) rfl dX1_characterAt_35 ?_
            refine lv_iload_n hx hb dX1_characterAt_38 rfl (lv_at hl 3 rfl) ?_
            refine rd_iald hx hb hK hP 1 0 rfl rfl (i) (by omega) (by omega) dX1_characterAt_39 ?_
            refine rd_callSN (As := [.int (ss i)]) (rest := [.int (ts i)]) ⟨hx, hb, hml, hown, hts⟩ hE (c_X4_widthOf l dC dI (ss i) ) ⟨va_cnB 1 hts gX1_characterAt_X4_widthOf_n98 rfl rfl rfl (hE.1.2 ("PictureRows$Picture", 98, yX4_widthOf) (by decide)) (hts (.initialized RX4) (by decide +kernel)) (by decide +kernel) ⟨Nat.le_of_ble_eq_true rfl, Nat.le_of_ble_eq_true rfl⟩, hts (.static yX4_widthOf) (by decide +kernel), trivial⟩ (hP.sub (ws' := []) [] rfl) (hK.sub [] rfl) rfl hl.1 rfl (Nat.le_of_ble_eq_true rfl) dX1_characterAt_40 ⟨Nat.zero_le _, Nat.zero_le _⟩ (fun r9 hr9 => ?_)
            subst hr9
            refine lv_imul hx hb dX1_characterAt_43 ?_
            refine lv_istore (lv' := [(4, .int ((ts i) * (m_X4_widthOf (ss i)))), (0, .ref h0), (1, .int ix), (2, .int x2), (3, .int (nI i))]) hx hb dX1_characterAt_44 hl (by decide) rfl (fun ls hl => ?_)
            refine lv_iload_n hx hb dX1_characterAt_46 rfl (lv_at hl 3 rfl) ?_
            refine lv_iload hx hb dX1_characterAt_47 (lv_at hl 0 rfl) ?_
            refine lv_icmp_ge (tgt := 64) hx hb dX1_characterAt_49 (by decide) (fun c_4 => ?_) (fun c_4 => ?_)
            · skip
              refine lv_iload_n hx hb dX1_characterAt_64 rfl (lv_at hl 3 rfl) ?_
              refine lv_iload hx hb dX1_characterAt_65 (lv_at hl 0 rfl) ?_
              refine lv_isub hx hb dX1_characterAt_67 ?_
              refine lv_istore_n (lv' := [(2, .int (x2 - ((ts i) * (m_X4_widthOf (ss i))))), (4, .int ((ts i) * (m_X4_widthOf (ss i)))), (0, .ref h0), (1, .int ix), (3, .int (nI i))]) hx hb dX1_characterAt_68 rfl hl (by decide) rfl (fun ls hl => ?_)
              refine lv_iinc (v := nI (i + 1)) (lv' := [(3, .int (nI (i + 1))), (2, .int (x2 - ((ts i) * (m_X4_widthOf (ss i))))), (4, .int ((ts i) * (m_X4_widthOf (ss i)))), (0, .ref h0), (1, .int ix)]) hx hb dX1_characterAt_69 hl (k := 4) rfl (nI_add (i) 1) (by decide) rfl (fun ls hl => ?_)
              refine lv_goto (tgt := 10) hx hb dX1_characterAt_72 (by decide) ?_
              exact ih10 (i + 1) (x2 - ((ts i) * (m_X4_widthOf (ss i)))) (by omega) (by omega)  (hm10.trans (by simp only [m_X1_characterAt_L10, if_neg c_2, if_pos c_4])) ls (lv_sub hl [3, 4, 1, 0] rfl)
            · skip
              refine lv_aload_n hx hb dX1_characterAt_52 rfl (lv_at hl 1 rfl) ?_
              refine lv_aload_n hx hb dX1_characterAt_53 rfl (lv_at hl 1 rfl) ?_
              refine va_get (D := (dC, dI)) (ci := 2) (v := .ref h1) (C := RX1) (T := TX1) (N := 10) hx hb hts (by decide +kernel) hown hK hP 0 rfl rfl 0 (by decide) (hts (.fieldLink RX1 38 "PictureRows$Picture" "signs" "[I") (by decide +kernel)) (fun _ h9 => h9) rfl dX1_characterAt_54 ?_
              refine lv_iload_n hx hb dX1_characterAt_57 rfl (lv_at hl 4 rfl) ?_
              refine rd_iald hx hb hK hP 1 0 rfl rfl (i) (by omega) (by omega) dX1_characterAt_58 ?_
              refine lv_iload_n hx hb dX1_characterAt_59 rfl (lv_at hl 3 rfl) ?_
              refine rd_callV (As := [.int (ss i), .int x2]) (rest := []) ⟨hx, hb, hml, hown, hts⟩ hE (c_X1_letterOf l dC dI h0 h1 h2 h3 h4 sc cat da db scl cu (ss i) x2 ) (cwV 2 hts gX1_characterAt_X1_letterOf rfl rfl rfl (by decide +kernel) ⟨Nat.le_of_ble_eq_true rfl, Nat.le_of_ble_eq_true rfl⟩) (hP.sub (ws' := [(h0, .inr (2, [.ref h1, .ref h2, .ref h3, .int cu, .int sc, .int cat, .int da, .int db, .int scl, .ref h4]))]) [0] rfl) (hK.sub [] rfl) (va_recv hK hP (ci := 2) (q0 := 0) rfl rfl) rfl hl.1 rfl (Nat.le_of_ble_eq_true rfl) dX1_characterAt_60 ⟨Nat.zero_le _, Nat.zero_le _⟩ (fun r9 hr9 => ?_)
              subst hr9
              exact rd_iret (v := m_X1_letterOf cu (ss i) x2) hx hb hr hlocks (show m_X1_characterAt ss ts n cu ix = m_X1_letterOf cu (ss i) x2 from hm10.trans (by simp only [m_X1_characterAt_L10, if_neg c_2, if_neg c_4])).symm dX1_characterAt_63
    exact lp_10 (n + 1) (0) ix (by omega) (by omega)  (show m_X1_characterAt ss ts n cu ix = m_X1_characterAt_L10 ss ts n cu ix (n + 1) 0 ix from by simp only [m_X1_characterAt, if_pos c_1]) ls (lv_sub hl [2, 3, 1, 0] rfl)
  · skip
    refine lv_iconst (v := (-1)) hx hb dX1_characterAt_4 (by decide) ?_
    exact rd_iret (v := (-1)) hx hb hr hlocks (show m_X1_characterAt ss ts n cu ix = (-1) from by simp only [m_X1_characterAt, if_neg c_1]).symm dX1_characterAt_5
def m_X1_countOf_j43_s0 (ss : Nat → Int32) (ts : Nat → Int32) (sg : Int32) (i : Nat) : Int32 := if (ss i) = sg then ts i else 0
def m_X1_countOf_L4 (ss : Nat → Int32) (ts : Nat → Int32) (n : Nat) (sg : Int32) : Nat → Nat → Int32 → Int32
  | 0, _, _ => 0
  | k4 + 1, i, x2 => if n ≤ i then x2 else (m_X1_countOf_L4 ss ts n sg k4 (i + 1) (x2 + (m_X1_countOf_j43_s0 ss ts sg i)))
def m_X1_countOf (ss : Nat → Int32) (ts : Nat → Int32) (n : Nat) (sg : Int32) : Int32 := m_X1_countOf_L4 ss ts n sg (n + 1) 0 0
set_option maxHeartbeats 4000000 in
set_option maxRecDepth 100000 in
theorem c_X1_countOf (l : Launch) (dC : Nat → ClassId) (dI : Nat → Nat → Nat) (h0 : Nat) (h1 : Nat) (h2 : Nat) (h3 : Nat) (h4 : Nat) (cA : ClassId) (cu : Int32) (sc : Int32) (cat : Int32) (da : Int32) (db : Int32) (scl : Int32) (ss : Nat → Int32) (ts : Nat → Int32) (n : Nat) (sg : Int32) (hn : n ≤ 80) : Met l yX1_countOf wsX1_countOf ({ frames := 0, cells := 0, slots := 0, locals := 0 } : Room) (va_Pc [.ref h0, .int sg] (rd_P (dC, dI) vwCl [(h0, .inr (2, [.ref h1, .ref h2, .ref h3, .int cu, .int sc, .int cat, .int da, .int db, .int scl, .ref h4])), (h1, .inl (cA, n, .inl ss)), (h2, .inl (cA, n, .inl ts))] [(cA, .int)])) (vp_Si (fun r => r = m_X1_countOf ss ts n sg)) 0 0 (fun _ => False) := by
  refine Met.ofW (cc := cX1_countOf) (maxL := 4) (ret := (some .int)) (by decide) rfl ?_
  intro p e s m args below meth c s₁ B hml hv
  obtain ⟨rfl, hE, hP, hK⟩ := hv
  have hx := B.exec
  have hb := B.bytes
  have hr := B.returns
  have hts := atoms_spec (ws := wsX1_countOf) B.pre
  have hown : s.vm.findClass RX1 = some m.cls := findClass_of_methodNamed B.named
  have hlocks := B.notSynchronized
  have hl := lv_entry ([.ref h0, .int sg]) (n := 4) (Nat.le_of_ble_eq_true rfl)
  rw [lg_entry_eq]
  generalize (lg_sl ([.ref h0, .int sg]) ++ List.replicate (4 - (lg_sl ([.ref h0, .int sg])).length) Slot.unset).toArray = ls at hl ⊢
  have hl : lv_has ls 4 [(0, .ref h0), (1, .int sg)] := hl
  refine lv_iconst (v := 0) hx hb dX1_countOf_0 (by decide) ?_
  refine lv_istore_n (lv' := [(2, .int 0), (0, .ref h0), (1, .int sg)]) hx hb dX1_countOf_1 rfl hl (by decide) rfl (fun ls hl => ?_)
  refine lv_iconst (v := 0) hx hb dX1_countOf_2 (by decide) ?_
  refine lv_istore_n (lv' := [(3, .int 0), (2, .int 0), (0, .ref h0), (1, .int sg)]) hx hb dX1_countOf_3 rfl hl (by decide) rfl (fun ls hl => ?_)
  have lp_4 : ∀ (k4 i : Nat) (x2 : Int32), i ≤ n → n + 1 ≤ i + k4 → m_X1_countOf ss ts n sg = m_X1_countOf_L4 ss ts n sg k4 i x2 → ∀ (ls : Array Slot), lv_has ls 4 [(0, .ref h0), (1, .int sg), (2, .int x2), (3, .int (nI i))] → W p l e (headSpec wsX1_countOf ({ frames := 0, cells := 0, slots := 0, locals := 0 } : Room)).room s m (([.ref h0, .int sg] : List Value).toArray) below meth c s.heap [] 0 0 (MQ below (vp_Si (fun r => r = m_X1_countOf ss ts n sg)) (([.ref h0, .int sg] : List Value).toArray) s 0 0 (fun _ => False)) (F0 m 4 ls []) := by
    intro k4
    induction k4 with
    | zero => intro i x2 h1_ h2_; exfalso; omega
    | succ k4 ih4 =>
      intro i x2 hb4 hf4  hm4 ls hl
      refine lv_iload_n hx hb dX1_countOf_4 rfl (lv_at hl 3 rfl) ?_
      refine lv_aload_n hx hb dX1_countOf_5 rfl (lv_at hl 0 rfl) ?_
      refine va_get (D := (dC, dI)) (ci := 2) (v := .ref h1) (C := RX1) (T := TX1) (N := 10) hx hb hts (by decide +kernel) hown hK hP 0 rfl rfl 0 (by decide) (hts (.fieldLink RX1 38 "PictureRows$Picture" "signs" "[I") (by decide +kernel)) (fun _ h9 => h9) rfl dX1_countOf_6 ?_
      refine va_alen (v := nI n) hx hb hK hP 1 0 rfl rfl rfl dX1_countOf_9 ?_
      refine lv_icmp_ge (tgt := 51) hx hb dX1_countOf_10 (by decide) (fun c_1 => ?_) (fun c_1 => ?_)
      · skip
        have c_1 : n ≤ i := (nI_leI (a := n) (b := i) (by omega) (by omega)).mp c_1
        refine lv_iload_n hx hb dX1_countOf_51 rfl (lv_at hl 2 rfl) ?_
        exact rd_iret (v := x2) hx hb hr hlocks (show m_X1_countOf ss ts n sg = x2 from hm4.trans (by simp only [m_X1_countOf_L4, if_pos c_1])).symm dX1_countOf_52
      · skip
        have c_1 : ¬ n ≤ i := (fun q_ => c_1 ((nI_leI (a := n) (b := i) (by omega) (by omega)).mpr q_))
        refine lv_iload_n hx hb dX1_countOf_13 rfl (lv_at hl 3 rfl) ?_
        refine lv_aload_n hx hb dX1_countOf_14 rfl (lv_at hl 0 rfl) ?_
        refine va_get (D := (dC, dI)) (ci := 2) (v := .ref h2) (C := RX1) (T := TX1) (N := 10) hx hb hts (by decide +kernel) hown hK hP 0 rfl rfl 1 (by decide) (hts (.fieldLink RX1 44 "PictureRows$Picture" "times" "[I") (by decide +kernel)) (fun _ h9 => h9) rfl dX1_countOf_15 ?_
        refine va_alen (v := nI n) hx hb hK hP 2 0 rfl rfl rfl dX1_countOf_18 ?_
        refine lv_icmp_ge (tgt := 51) hx hb dX1_countOf_19 (by decide) (fun c_2 => ?_) (fun c_2 => ?_)
        · skip
          have c_2 : n ≤ i := (nI_leI (a := n) (b := i) (by omega) (by omega)).mp c_2
          exfalso; omega
        · skip
          have c_2 : ¬ n ≤ i := (fun q_ => c_2 ((nI_leI (a := n) (b := i) (by omega) (by omega)).mpr q_))
          refine lv_iload_n hx hb dX1_countOf_22 rfl (lv_at hl 2 rfl) ?_
          refine lv_aload_n hx hb dX1_countOf_23 rfl (lv_at hl 0 rfl) ?_
          refine va_get (D := (dC, dI)) (ci := 2) (v := .ref h1) (C := RX1) (T := TX1) (N := 10) hx hb hts (by decide +kernel) hown hK hP 0 rfl rfl 0 (by decide) (hts (.fieldLink RX1 38 "PictureRows$Picture" "signs" "[I") (by decide +kernel)) (fun _ h9 => h9) rfl dX1_countOf_24 ?_
          refine lv_iload_n hx hb dX1_countOf_27 rfl (lv_at hl 3 rfl) ?_
          refine rd_iald hx hb hK hP 1 0 rfl rfl (i) (by omega) (by omega) dX1_countOf_28 ?_
          refine lv_iload_n hx hb dX1_countOf_29 rfl (lv_at hl 1 rfl) ?_
          have j_3 : ∀ (y0_j_3 : Int32), y0_j_3 = m_X1_countOf_j43_s0 ss ts sg i → ∀ (ls : Array Slot), lv_has ls 4 [(0, .ref h0), (1, .int sg), (2, .int x2), (3, .int (nI i))] → W p l e (headSpec wsX1_countOf ({ frames := 0, cells := 0, slots := 0, locals := 0 } : Room)).room s m (([.ref h0, .int sg] : List Value).toArray) below meth c s.heap [] 0 0 (MQ below (vp_Si (fun r => r = m_X1_countOf ss ts n sg)) (([.ref h0, .int sg] : List Value).toArray) s 0 0 (fun _ => False)) (F0 m 43 ls [.int y0_j_3, .int x2]) := by
            intro y0_j_3 ey0_j_3 ls hl
            subst ey0_j_3
            refine lv_iadd hx hb dX1_countOf_43 ?_
            refine lv_istore_n (lv' := [(2, .int (x2 + (m_X1_countOf_j43_s0 ss ts sg i))), (0, .ref h0), (1, .int sg), (3, .int (nI i))]) hx hb dX1_countOf_44 rfl hl (by decide) rfl (fun ls hl => ?_)
            refine lv_iinc (v := nI (i + 1)) (lv' := [(3, .int (nI (i + 1))), (2, .int (x2 + (m_X1_countOf_j43_s0 ss ts sg i))), (0, .ref h0), (1, .int sg)]) hx hb dX1_countOf_45 hl (k := 3) rfl (nI_add (i) 1) (by decide) rfl (fun ls hl => ?_)
            refine lv_goto (tgt := 4) hx hb dX1_countOf_48 (by decide) ?_
            exact ih4 (i + 1) (x2 + (m_X1_countOf_j43_s0 ss ts sg i)) (by omega) (by omega)  (hm4.trans (by simp only [m_X1_countOf_L4, if_neg c_1])) ls (lv_sub hl [2, 3, 1, 0] rfl)
          refine lv_icmp_ne (tgt := 42) hx hb dX1_countOf_30 (by decide) (fun c_4 => ?_) (fun c_4 => ?_)
          · skip
            refine lv_iconst (v := 0) hx hb dX1_countOf_42 (by decide) ?_
            exact j_3 0 (by simp only [m_X1_countOf_j43_s0, if_neg c_4]) ls (lv_sub hl [0, 1, 2, 3] rfl)
          · skip
            refine lv_aload_n hx hb dX1_countOf_33 rfl (lv_at hl 0 rfl) ?_
            refine va_get (D := (dC, dI)) (ci := 2) (v := .ref h2) (C := RX1) (T := TX1) (N := 10) hx hb hts (by decide +kernel) hown hK hP 0 rfl rfl 1 (by decide) (hts (.fieldLink RX1 44 "PictureRows$Picture" "times" "[I") (by decide +kernel)) (fun _ h9 => h9) rfl dX1_countOf_34 ?_
            refine lv_iload_n hx hb dX1_countOf_37 rfl (lv_at hl 3 rfl) ?_
            refine rd_iald hx hb hK hP 2 0 rfl rfl (i) (by omega) (by omega) dX1_countOf_38 ?_
            refine lv_goto (tgt := 43) hx hb dX1_countOf_39 (by decide) ?_
            exact j_3 (ts i) (by simp only [m_X1_countOf_j43_s0, if_pos c_4]) ls (lv_sub hl [0, 1, 2, 3] rfl)
  exact lp_4 (n + 1) (0) 0 (by omega) (by omega)  (show m_X1_countOf ss ts n sg = m_X1_countOf_L4 ss ts n sg (n + 1) 0 0 from by simp only [m_X1_countOf]) ls (lv_sub hl [2, 3, 1, 0] rfl)
def m_X1_countOfKind_j43_s0 (ks : Nat → Int32) (ts : Nat → Int32) (kd : Int32) (i : Nat) : Int32 := if (ks i) = kd then ts i else 0
def m_X1_countOfKind_L4 (ks : Nat → Int32) (ts : Nat → Int32) (n : Nat) (kd : Int32) : Nat → Nat → Int32 → Int32
  | 0, _, _ => 0
  | k4 + 1, i, x2 => if n ≤ i then x2 else (m_X1_countOfKind_L4 ks ts n kd k4 (i + 1) (x2 + (m_X1_countOfKind_j43_s0 ks ts kd i)))
def m_X1_countOfKind (ks : Nat → Int32) (ts : Nat → Int32) (n : Nat) (kd : Int32) : Int32 := m_X1_countOfKind_L4 ks ts n kd (n + 1) 0 0
set_option maxHeartbeats 4000000 in
set_option maxRecDepth 100000 in
theorem c_X1_countOfKind (l : Launch) (dC : Nat → ClassId) (dI : Nat → Nat → Nat) (h0 : Nat) (h1 : Nat) (h2 : Nat) (h3 : Nat) (h4 : Nat) (cA : ClassId) (cu : Int32) (sc : Int32) (cat : Int32) (da : Int32) (db : Int32) (scl : Int32) (ks : Nat → Int32) (ts : Nat → Int32) (n : Nat) (kd : Int32) (hn : n ≤ 80) : Met l yX1_countOfKind wsX1_countOfKind ({ frames := 0, cells := 0, slots := 0, locals := 0 } : Room) (va_Pc [.ref h0, .int kd] (rd_P (dC, dI) vwCl [(h0, .inr (2, [.ref h1, .ref h2, .ref h3, .int cu, .int sc, .int cat, .int da, .int db, .int scl, .ref h4])), (h3, .inl (cA, n, .inl ks)), (h2, .inl (cA, n, .inl ts))] [(cA, .int)])) (vp_Si (fun r => r = m_X1_countOfKind ks ts n kd)) 0 0 (fun _ => False) := by
  refine Met.ofW (cc := cX1_countOfKind) (maxL := 4) (ret := (some .int)) (by decide) rfl ?_
  intro p e s m args below meth c s₁ B hml hv
  obtain ⟨rfl, hE, hP, hK⟩ := hv
  have hx := B.exec
  have hb := B.bytes
  have hr := B.returns
  have hts := atoms_spec (ws := wsX1_countOfKind) B.pre
  have hown : s.vm.findClass RX1 = some m.cls := findClass_of_methodNamed B.named
  have hlocks := B.notSynchronized
  have hl := lv_entry ([.ref h0, .int kd]) (n := 4) (Nat.le_of_ble_eq_true rfl)
  rw [lg_entry_eq]
  generalize (lg_sl ([.ref h0, .int kd]) ++ List.replicate (4 - (lg_sl ([.ref h0, .int kd])).length) Slot.unset).toArray = ls at hl ⊢
  have hl : lv_has ls 4 [(0, .ref h0), (1, .int kd)] := hl
  refine lv_iconst (v := 0) hx hb dX1_countOfKind_0 (by decide) ?_
  refine lv_istore_n (lv' := [(2, .int 0), (0, .ref h0), (1, .int kd)]) hx hb dX1_countOfKind_1 rfl hl (by decide) rfl (fun ls hl => ?_)
  refine lv_iconst (v := 0) hx hb dX1_countOfKind_2 (by decide) ?_
  refine lv_istore_n (lv' := [(3, .int 0), (2, .int 0), (0, .ref h0), (1, .int kd)]) hx hb dX1_countOfKind_3 rfl hl (by decide) rfl (fun ls hl => ?_)
  have lp_4 : ∀ (k4 i : Nat) (x2 : Int32), i ≤ n → n + 1 ≤ i + k4 → m_X1_countOfKind ks ts n kd = m_X1_countOfKind_L4 ks ts n kd k4 i x2 → ∀ (ls : Array Slot), lv_has ls 4 [(0, .ref h0), (1, .int kd), (2, .int x2), (3, .int (nI i))] → W p l e (headSpec wsX1_countOfKind ({ frames := 0, cells := 0, slots := 0, locals := 0 } : Room)).room s m (([.ref h0, .int kd] : List Value).toArray) below meth c s.heap [] 0 0 (MQ below (vp_Si (fun r => r = m_X1_countOfKind ks ts n kd)) (([.ref h0, .int kd] : List Value).toArray) s 0 0 (fun _ => False)) (F0 m 4 ls []) := by
    intro k4
    induction k4 with
    | zero => intro i x2 h1_ h2_; exfalso; omega
    | succ k4 ih4 =>
      intro i x2 hb4 hf4  hm4 ls hl
      refine lv_iload_n hx hb dX1_countOfKind_4 rfl (lv_at hl 3 rfl) ?_
      refine lv_aload_n hx hb dX1_countOfKind_5 rfl (lv_at hl 0 rfl) ?_
      refine va_get (D := (dC, dI)) (ci := 2) (v := .ref h3) (C := RX1) (T := TX1) (N := 10) hx hb hts (by decide +kernel) hown hK hP 0 rfl rfl 2 (by decide) (hts (.fieldLink RX1 48 "PictureRows$Picture" "kinds" "[I") (by decide +kernel)) (fun _ h9 => h9) rfl dX1_countOfKind_6 ?_
      refine va_alen (v := nI n) hx hb hK hP 1 0 rfl rfl rfl dX1_countOfKind_9 ?_
      refine lv_icmp_ge (tgt := 51) hx hb dX1_countOfKind_10 (by decide) (fun c_1 => ?_) (fun c_1 => ?_)
      · skip
        have c_1 : n ≤ i := (nI_leI (a := n) (b := i) (by omega) (by omega)).mp c_1
        refine lv_iload_n hx hb dX1_countOfKind_51 rfl (lv_at hl 2 rfl) ?_
        exact rd_iret (v := x2) hx hb hr hlocks (show m_X1_countOfKind ks ts n kd = x2 from hm4.trans (by simp only [m_X1_countOfKind_L4, if_pos c_1])).symm dX1_countOfKind_52
      · skip
        have c_1 : ¬ n ≤ i := (fun q_ => c_1 ((nI_leI (a := n) (b := i) (by omega) (by omega)).mpr q_))
        refine lv_iload_n hx hb dX1_countOfKind_13 rfl (lv_at hl 3 rfl) ?_
        refine lv_aload_n hx hb dX1_countOfKind_14 rfl (lv_at hl 0 rfl) ?_
        refine va_get (D := (dC, dI)) (ci := 2) (v := .ref h2) (C := RX1) (T := TX1) (N := 10) hx hb hts (by decide +kernel) hown hK hP 0 rfl rfl 1 (by decide) (hts (.fieldLink RX1 44 "PictureRows$Picture" "times" "[I") (by decide +kernel)) (fun _ h9 => h9) rfl dX1_countOfKind_15 ?_
        refine va_alen (v := nI n) hx hb hK hP 2 0 rfl rfl rfl dX1_countOfKind_18 ?_
        refine lv_icmp_ge (tgt := 51) hx hb dX1_countOfKind_19 (by decide) (fun c_2 => ?_) (fun c_2 => ?_)
        · skip
          have c_2 : n ≤ i := (nI_leI (a := n) (b := i) (by omega) (by omega)).mp c_2
          exfalso; omega
        · skip
          have c_2 : ¬ n ≤ i := (fun q_ => c_2 ((nI_leI (a := n) (b := i) (by omega) (by omega)).mpr q_))
          refine lv_iload_n hx hb dX1_countOfKind_22 rfl (lv_at hl 2 rfl) ?_
          refine lv_aload_n hx hb dX1_countOfKind_23 rfl (lv_at hl 0 rfl) ?_
          refine va_get (D := (dC, dI)) (ci := 2) (v := .ref h3) (C := RX1) (T := TX1) (N := 10) hx hb hts (by decide +kernel) hown hK hP 0 rfl rfl 2 (by decide) (hts (.fieldLink RX1 48 "PictureRows$Picture" "kinds" "[I") (by decide +kernel)) (fun _ h9 => h9) rfl dX1_countOfKind_24 ?_
          refine lv_iload_n hx hb dX1_countOfKind_27 rfl (lv_at hl 3 rfl) ?_
          refine rd_iald hx hb hK hP 1 0 rfl rfl (i) (by omega) (by omega) dX1_countOfKind_28 ?_
          refine lv_iload_n hx hb dX1_countOfKind_29 rfl (lv_at hl 1 rfl) ?_
          have j_3 : ∀ (y0_j_3 : Int32), y0_j_3 = m_X1_countOfKind_j43_s0 ks ts kd i → ∀ (ls : Array Slot), lv_has ls 4 [(0, .ref h0), (1, .int kd), (2, .int x2), (3, .int (nI i))] → W p l e (headSpec wsX1_countOfKind ({ frames := 0, cells := 0, slots := 0, locals := 0 } : Room)).room s m (([.ref h0, .int kd] : List Value).toArray) below meth c s.heap [] 0 0 (MQ below (vp_Si (fun r => r = m_X1_countOfKind ks ts n kd)) (([.ref h0, .int kd] : List Value).toArray) s 0 0 (fun _ => False)) (F0 m 43 ls [.int y0_j_3, .int x2]) := by
            intro y0_j_3 ey0_j_3 ls hl
            subst ey0_j_3
            refine lv_iadd hx hb dX1_countOfKind_43 ?_
            refine lv_istore_n (lv' := [(2, .int (x2 + (m_X1_countOfKind_j43_s0 ks ts kd i))), (0, .ref h0), (1, .int kd), (3, .int (nI i))]) hx hb dX1_countOfKind_44 rfl hl (by decide) rfl (fun ls hl => ?_)
            refine lv_iinc (v := nI (i + 1)) (lv' := [(3, .int (nI (i + 1))), (2, .int (x2 + (m_X1_countOfKind_j43_s0 ks ts kd i))), (0, .ref h0), (1, .int kd)]) hx hb dX1_countOfKind_45 hl (k := 3) rfl (nI_add (i) 1) (by decide) rfl (fun ls hl => ?_)
            refine lv_goto (tgt := 4) hx hb dX1_countOfKind_48 (by decide) ?_
            exact ih4 (i + 1) (x2 + (m_X1_countOfKind_j43_s0 ks ts kd i)) (by omega) (by omega)  (hm4.trans (by simp only [m_X1_countOfKind_L4, if_neg c_1])) ls (lv_sub hl [2, 3, 1, 0] rfl)
          refine lv_icmp_ne (tgt := 42) hx hb dX1_countOfKind_30 (by decide) (fun c_4 => ?_) (fun c_4 => ?_)
          · skip
            refine lv_iconst (v := 0) hx hb dX1_countOfKind_42 (by decide) ?_
            exact j_3 0 (by simp only [m_X1_countOfKind_j43_s0, if_neg c_4]) ls (lv_sub hl [0, 1, 2, 3] rfl)
          · skip
            refine lv_aload_n hx hb dX1_countOfKind_33 rfl (lv_at hl 0 rfl) ?_
            refine va_get (D := (dC, dI)) (ci := 2) (v := .ref h2) (C := RX1) (T := TX1) (N := 10) hx hb hts (by decide +kernel) hown hK hP 0 rfl rfl 1 (by decide) (hts (.fieldLink RX1 44 "PictureRows$Picture" "times" "[I") (by decide +kernel)) (fun _ h9 => h9) rfl dX1_countOfKind_34 ?_
            refine lv_iload_n hx hb dX1_countOfKind_37 rfl (lv_at hl 3 rfl) ?_
            refine rd_iald hx hb hK hP 2 0 rfl rfl (i) (by omega) (by omega) dX1_countOfKind_38 ?_
            refine lv_goto (tgt := 43) hx hb dX1_countOfKind_39 (by decide) ?_
            exact j_3 (ts i) (by simp only [m_X1_countOfKind_j43_s0, if_pos c_4]) ls (lv_sub hl [0, 1, 2, 3] rfl)
  exact lp_4 (n + 1) (0) 0 (by omega) (by omega)  (show m_X1_countOfKind ks ts n kd = m_X1_countOfKind_L4 ks ts n kd (n + 1) 0 0 from by simp only [m_X1_countOfKind]) ls (lv_sub hl [2, 3, 1, 0] rfl)
def m_X1_insertionsOf (ss : Nat → Int32) (ts : Nat → Int32) (ks : Nat → Int32) (n : Nat) (kd : Int32) : Int32 := if kd = 0 then (m_X1_countOf ss ts n 66) else (if kd = 1 then (m_X1_countOf ss ts n 48) else (if kd = 2 then (m_X1_countOf ss ts n 47) else (if kd = 3 then (m_X1_countOf ss ts n 44) else (if kd = 4 then (m_X1_countOf ss ts n 46) else (if kd = 5 then ((m_X1_countOfKind ks ts n 3) + (m_X1_countOfKind ks ts n 4)) else (if kd = 6 then (m_X1_countOfKind ks ts n 5) else ((-1))))))))
set_option maxHeartbeats 4000000 in
set_option maxRecDepth 100000 in
theorem c_X1_insertionsOf (l : Launch) (dC : Nat → ClassId) (dI : Nat → Nat → Nat) (h0 : Nat) (h1 : Nat) (h2 : Nat) (h3 : Nat) (h4 : Nat) (cA : ClassId) (cu : Int32) (sc : Int32) (cat : Int32) (da : Int32) (db : Int32) (scl : Int32) (ss : Nat → Int32) (ts : Nat → Int32) (ks : Nat → Int32) (n : Nat) (kd : Int32) (hn : n ≤ 80) : Met l yX1_insertionsOf wsX1_insertionsOf ({ frames := 1, cells := 0, slots := 0, locals := 23 } : Room) (va_Pc [.ref h0, .int kd] (rd_P (dC, dI) vwCl [(h0, .inr (2, [.ref h1, .ref h2, .ref h3, .int cu, .int sc, .int cat, .int da, .int db, .int scl, .ref h4])), (h1, .inl (cA, n, .inl ss)), (h2, .inl (cA, n, .inl ts)), (h3, .inl (cA, n, .inl ks))] [(cA, .int)])) (vp_Si (fun r => r = m_X1_insertionsOf ss ts ks n kd)) 0 0 (fun _ => False) := by
  refine Met.ofW (cc := cX1_insertionsOf) (maxL := 2) (ret := (some .int)) (by decide) rfl ?_
  intro p e s m args below meth c s₁ B hml hv
  obtain ⟨rfl, hE, hP, hK⟩ := hv
  have hx := B.exec
  have hb := B.bytes
  have hr := B.returns
  have hts := atoms_spec (ws := wsX1_insertionsOf) B.pre
  have hown : s.vm.findClass RX1 = some m.cls := findClass_of_methodNamed B.named
  have hlocks := B.notSynchronized
  have hl := lv_entry ([.ref h0, .int kd]) (n := 2) (Nat.le_of_ble_eq_true rfl)
  rw [lg_entry_eq]
  generalize (lg_sl ([.ref h0, .int kd]) ++ List.replicate (2 - (lg_sl ([.ref h0, .int kd])).length) Slot.unset).toArray = ls at hl ⊢
  have hl : lv_has ls 2 [(0, .ref h0), (1, .int kd)] := hl
  refine lv_iload_n hx hb dX1_insertionsOf_0 rfl (lv_at hl 1 rfl) ?_
  by_cases c_1 : kd = 0
  · skip
    refine lv_tableIn (off := 43) (tgt := 44) hx hb dX1_insertionsOf_1 (by rw [c_1]; decide) (by rw [c_1]; decide) (by rw [c_1]; rfl) (by decide) ?_
    refine lv_aload_n hx hb dX1_insertionsOf_44 rfl (lv_at hl 0 rfl) ?_
    refine lv_bipush (v := 66) hx hb dX1_insertionsOf_45 (by decide) ?_
    refine rd_callV (As := [.int 66]) (rest := []) ⟨hx, hb, hml, hown, hts⟩ hE (c_X1_countOf l dC dI h0 h1 h2 h3 h4 cA cu sc cat da db scl ss ts n 66 (by omega)) (cwV 1 hts gX1_insertionsOf_X1_countOf rfl rfl rfl (by decide +kernel) ⟨Nat.le_of_ble_eq_true rfl, Nat.le_of_ble_eq_true rfl⟩) (hP.sub (ws' := [(h0, .inr (2, [.ref h1, .ref h2, .ref h3, .int cu, .int sc, .int cat, .int da, .int db, .int scl, .ref h4])), (h1, .inl (cA, n, .inl ss)), (h2, .inl (cA, n, .inl ts))]) [0, 1, 2] rfl) (hK.sub [0] rfl) (va_recv hK hP (ci := 2) (q0 := 0) rfl rfl) rfl hl.1 rfl (Nat.le_of_ble_eq_true rfl) dX1_insertionsOf_47 ⟨Nat.zero_le _, Nat.zero_le _⟩ (fun r9 hr9 => ?_)
    subst hr9
    exact rd_iret (v := m_X1_countOf ss ts n 66) hx hb hr hlocks (show m_X1_insertionsOf ss ts ks n kd = m_X1_countOf ss ts n 66 from by simp only [m_X1_insertionsOf, if_pos c_1]).symm dX1_insertionsOf_50
  by_cases c_2 : kd = 1
  · skip
    refine lv_tableIn (off := 50) (tgt := 51) hx hb dX1_insertionsOf_1 (by rw [c_2]; decide) (by rw [c_2]; decide) (by rw [c_2]; rfl) (by decide) ?_
    refine lv_aload_n hx hb dX1_insertionsOf_51 rfl (lv_at hl 0 rfl) ?_
    refine lv_bipush (v := 48) hx hb dX1_insertionsOf_52 (by decide) ?_
    refine rd_callV (As := [.int 48]) (rest := []) ⟨hx, hb, hml, hown, hts⟩ hE (c_X1_countOf l dC dI h0 h1 h2 h3 h4 cA cu sc cat da db scl ss ts n 48 (by omega)) (cwV 1 hts gX1_insertionsOf_X1_countOf rfl rfl rfl (by decide +kernel) ⟨Nat.le_of_ble_eq_true rfl, Nat.le_of_ble_eq_true rfl⟩) (hP.sub (ws' := [(h0, .inr (2, [.ref h1, .ref h2, .ref h3, .int cu, .int sc, .int cat, .int da, .int db, .int scl, .ref h4])), (h1, .inl (cA, n, .inl ss)), (h2, .inl (cA, n, .inl ts))]) [0, 1, 2] rfl) (hK.sub [0] rfl) (va_recv hK hP (ci := 2) (q0 := 0) rfl rfl) rfl hl.1 rfl (Nat.le_of_ble_eq_true rfl) dX1_insertionsOf_54 ⟨Nat.zero_le _, Nat.zero_le _⟩ (fun r9 hr9 => ?_)
    subst hr9
    exact rd_iret (v := m_X1_countOf ss ts n 48) hx hb hr hlocks (show m_X1_insertionsOf ss ts ks n kd = m_X1_countOf ss ts n 48 from by simp only [m_X1_insertionsOf, if_neg c_1, if_pos c_2]).symm dX1_insertionsOf_57
  by_cases c_3 : kd = 2
  · skip
    refine lv_tableIn (off := 57) (tgt := 58) hx hb dX1_insertionsOf_1 (by rw [c_3]; decide) (by rw [c_3]; decide) (by rw [c_3]; rfl) (by decide) ?_
    refine lv_aload_n hx hb dX1_insertionsOf_58 rfl (lv_at hl 0 rfl) ?_
    refine lv_bipush (v := 47) hx hb dX1_insertionsOf_59 (by decide) ?_
    refine rd_callV (As := [.int 47]) (rest := []) ⟨hx, hb, hml, hown, hts⟩ hE (c_X1_countOf l dC dI h0 h1 h2 h3 h4 cA cu sc cat da db scl ss ts n 47 (by omega)) (cwV 1 hts gX1_insertionsOf_X1_countOf rfl rfl rfl (by decide +kernel) ⟨Nat.le_of_ble_eq_true rfl, Nat.le_of_ble_eq_true rfl⟩) (hP.sub (ws' := [(h0, .inr (2, [.ref h1, .ref h2, .ref h3, .int cu, .int sc, .int cat, .int da, .int db, .int scl, .ref h4])), (h1, .inl (cA, n, .inl ss)), (h2, .inl (cA, n, .inl ts))]) [0, 1, 2] rfl) (hK.sub [0] rfl) (va_recv hK hP (ci := 2) (q0 := 0) rfl rfl) rfl hl.1 rfl (Nat.le_of_ble_eq_true rfl) dX1_insertionsOf_61 ⟨Nat.zero_le _, Nat.zero_le _⟩ (fun r9 hr9 => ?_)
    subst hr9
    exact rd_iret (v := m_X1_countOf ss ts n 47) hx hb hr hlocks (show m_X1_insertionsOf ss ts ks n kd = m_X1_countOf ss ts n 47 from by simp only [m_X1_insertionsOf, if_neg c_1, if_neg c_2, if_pos c_3]).symm dX1_insertionsOf_64
  by_cases c_4 : kd = 3
  · skip
    refine lv_tableIn (off := 64) (tgt := 65) hx hb dX1_insertionsOf_1 (by rw [c_4]; decide) (by rw [c_4]; decide) (by rw [c_4]; rfl) (by decide) ?_
    refine lv_aload_n hx hb dX1_insertionsOf_65 rfl (lv_at hl 0 rfl) ?_
    refine lv_bipush (v := 44) hx hb dX1_insertionsOf_66 (by decide) ?_
    refine rd_callV (As := [.int 44]) (rest := []) ⟨hx, hb, hml, hown, hts⟩ hE (c_X1_countOf l dC dI h0 h1 h2 h3 h4 cA cu sc cat da db scl ss ts n 44 (by omega)) (cwV 1 hts gX1_insertionsOf_X1_countOf rfl rfl rfl (by decide +kernel) ⟨Nat.le_of_ble_eq_true rfl, Nat.le_of_ble_eq_true rfl⟩) (hP.sub (ws' := [(h0, .inr (2, [.ref h1, .ref h2, .ref h3, .int cu, .int sc, .int cat, .int da, .int db, .int scl, .ref h4])), (h1, .inl (cA, n, .inl ss)), (h2, .inl (cA, n, .inl ts))]) [0, 1, 2] rfl) (hK.sub [0] rfl) (va_recv hK hP (ci := 2) (q0 := 0) rfl rfl) rfl hl.1 rfl (Nat.le_of_ble_eq_true rfl) dX1_insertionsOf_68 ⟨Nat.zero_le _, Nat.zero_le _⟩ (fun r9 hr9 => ?_)
    subst hr9
    exact rd_iret (v := m_X1_countOf ss ts n 44) hx hb hr hlocks (show m_X1_insertionsOf ss ts ks n kd = m_X1_countOf ss ts n 44 from by simp only [m_X1_insertionsOf, if_neg c_1, if_neg c_2, if_neg c_3, if_pos c_4]).symm dX1_insertionsOf_71
  by_cases c_5 : kd = 4
  · skip
    refine lv_tableIn (off := 71) (tgt := 72) hx hb dX1_insertionsOf_1 (by rw [c_5]; decide) (by rw [c_5]; decide) (by rw [c_5]; rfl) (by decide) ?_
    refine lv_aload_n hx hb dX1_insertionsOf_72 rfl (lv_at hl 0 rfl) ?_
    refine lv_bipush (v := 46) hx hb dX1_insertionsOf_73 (by decide) ?_
    refine rd_callV (As := [.int 46]) (rest := []) ⟨hx, hb, hml, hown, hts⟩ hE (c_X1_countOf l dC dI h0 h1 h2 h3 h4 cA cu sc cat da db scl ss ts n 46 (by omega)) (cwV 1 hts gX1_insertionsOf_X1_countOf rfl rfl rfl (by decide +kernel) ⟨Nat.le_of_ble_eq_true rfl, Nat.le_of_ble_eq_true rfl⟩) (hP.sub (ws' := [(h0, .inr (2, [.ref h1, .ref h2, .ref h3, .int cu, .int sc, .int cat, .int da, .int db, .int scl, .ref h4])), (h1, .inl (cA, n, .inl ss)), (h2, .inl (cA, n, .inl ts))]) [0, 1, 2] rfl) (hK.sub [0] rfl) (va_recv hK hP (ci := 2) (q0 := 0) rfl rfl) rfl hl.1 rfl (Nat.le_of_ble_eq_true rfl) dX1_insertionsOf_75 ⟨Nat.zero_le _, Nat.zero_le _⟩ (fun r9 hr9 => ?_)
    subst hr9
    exact rd_iret (v := m_X1_countOf ss ts n 46) hx hb hr hlocks (show m_X1_insertionsOf ss ts ks n kd = m_X1_countOf ss ts n 46 from by simp only [m_X1_insertionsOf, if_neg c_1, if_neg c_2, if_neg c_3, if_neg c_4, if_pos c_5]).symm dX1_insertionsOf_78
  by_cases c_6 : kd = 5
  · skip
    refine lv_tableIn (off := 78) (tgt := 79) hx hb dX1_insertionsOf_1 (by rw [c_6]; decide) (by rw [c_6]; decide) (by rw [c_6]; rfl) (by decide) ?_
    refine lv_aload_n hx hb dX1_insertionsOf_79 rfl (lv_at hl 0 rfl) ?_
    refine lv_iconst (v := 3) hx hb dX1_insertionsOf_80 (by decide) ?_
    refine rd_callV (As := [.int 3]) (rest := []) ⟨hx, hb, hml, hown, hts⟩ hE (c_X1_countOfKind l dC dI h0 h1 h2 h3 h4 cA cu sc cat da db scl ks ts n 3 (by omega)) (cwV 1 hts gX1_insertionsOf_X1_countOfKind rfl rfl rfl (by decide +kernel) ⟨Nat.le_of_ble_eq_true rfl, Nat.le_of_ble_eq_true rfl⟩) (hP.sub (ws' := [(h0, .inr (2, [.ref h1, .ref h2, .ref h3, .int cu, .int sc, .int cat, .int da, .int db, .int scl, .ref h4])), (h3, .inl (cA, n, .inl ks)), (h2, .inl (cA, n, .inl ts))]) [0, 3, 2] rfl) (hK.sub [0] rfl) (va_recv hK hP (ci := 2) (q0 := 0) rfl rfl) rfl hl.1 rfl (Nat.le_of_ble_eq_true rfl) dX1_insertionsOf_81 ⟨Nat.zero_le _, Nat.zero_le _⟩ (fun r9 hr9 => ?_)
    subst hr9
    refine lv_aload_n hx hb dX1_insertionsOf_84 rfl (lv_at hl 0 rfl) ?_
    refine lv_iconst (v := 4) hx hb dX1_insertionsOf_85 (by decide) ?_
    refine rd_callV (As := [.int 4]) (rest := [.int (m_X1_countOfKind ks ts n 3)]) ⟨hx, hb, hml, hown, hts⟩ hE (c_X1_countOfKind l dC dI h0 h1 h2 h3 h4 cA cu sc cat da db scl ks ts n 4 (by omega)) (cwV 1 hts gX1_insertionsOf_X1_countOfKind rfl rfl rfl (by decide +kernel) ⟨Nat.le_of_ble_eq_true rfl, Nat.le_of_ble_eq_true rfl⟩) (hP.sub (ws' := [(h0, .inr (2, [.ref h1, .ref h2, .ref h3, .int cu, .int sc, .int cat, .int da, .int db, .int scl, .ref h4])), (h3, .inl (cA, n, .inl ks)), (h2, .inl (cA, n, .inl ts))]) [0, 3, 2] rfl) (hK.sub [0] rfl) (va_recv hK hP (ci := 2) (q0 := 0) rfl rfl) rfl hl.1 rfl (Nat.le_of_ble_eq_true rfl) dX1_insertionsOf_86 ⟨Nat.zero_le _, Nat.zero_le _⟩ (fun r9 hr9 => ?_)
    subst hr9
    refine lv_iadd hx hb dX1_insertionsOf_89 ?_
    exact rd_iret (v := (m_X1_countOfKind ks ts n 3) + (m_X1_countOfKind ks ts n 4)) hx hb hr hlocks (show m_X1_insertionsOf ss ts ks n kd = (m_X1_countOfKind ks ts n 3) + (m_X1_countOfKind ks ts n 4) from by simp only [m_X1_insertionsOf, if_neg c_1, if_neg c_2, if_neg c_3, if_neg c_4, if_neg c_5, if_pos c_6]).symm dX1_insertionsOf_90
  by_cases c_7 : kd = 6
  · skip
    refine lv_tableIn (off := 90) (tgt := 91) hx hb dX1_insertionsOf_1 (by rw [c_7]; decide) (by rw [c_7]; decide) (by rw [c_7]; rfl) (by decide) ?_
    refine lv_aload_n hx hb dX1_insertionsOf_91 rfl (lv_at hl 0 rfl) ?_
    refine lv_iconst (v := 5) hx hb dX1_insertionsOf_92 (by decide) ?_
    refine rd_callV (As := [.int 5]) (rest := []) ⟨hx, hb, hml, hown, hts⟩ hE (c_X1_countOfKind l dC dI h0 h1 h2 h3 h4 cA cu sc cat da db scl ks ts n 5 (by omega)) (cwV 1 hts gX1_insertionsOf_X1_countOfKind rfl rfl rfl (by decide +kernel) ⟨Nat.le_of_ble_eq_true rfl, Nat.le_of_ble_eq_true rfl⟩) (hP.sub (ws' := [(h0, .inr (2, [.ref h1, .ref h2, .ref h3, .int cu, .int sc, .int cat, .int da, .int db, .int scl, .ref h4])), (h3, .inl (cA, n, .inl ks)), (h2, .inl (cA, n, .inl ts))]) [0, 3, 2] rfl) (hK.sub [0] rfl) (va_recv hK hP (ci := 2) (q0 := 0) rfl rfl) rfl hl.1 rfl (Nat.le_of_ble_eq_true rfl) dX1_insertionsOf_93 ⟨Nat.zero_le _, Nat.zero_le _⟩ (fun r9 hr9 => ?_)
    subst hr9
    exact rd_iret (v := m_X1_countOfKind ks ts n 5) hx hb hr hlocks (show m_X1_insertionsOf ss ts ks n kd = m_X1_countOfKind ks ts n 5 from by simp only [m_X1_insertionsOf, if_neg c_1, if_neg c_2, if_neg c_3, if_neg c_4, if_neg c_5, if_neg c_6, if_pos c_7]).symm dX1_insertionsOf_96
  refine lv_tableOut (tgt := 97) hx hb dX1_insertionsOf_1 (by have n0_ := lv_neT (a := 0) c_1 (by decide); have n1_ := lv_neT (a := 1) c_2 (by decide); have n2_ := lv_neT (a := 2) c_3 (by decide); have n3_ := lv_neT (a := 3) c_4 (by decide); have n4_ := lv_neT (a := 4) c_5 (by decide); have n5_ := lv_neT (a := 5) c_6 (by decide); have n6_ := lv_neT (a := 6) c_7 (by decide); omega) (by decide) ?_
  refine lv_iconst (v := (-1)) hx hb dX1_insertionsOf_97 (by decide) ?_
  exact rd_iret (v := (-1)) hx hb hr hlocks (show m_X1_insertionsOf ss ts ks n kd = (-1) from by simp only [m_X1_insertionsOf, if_neg c_1, if_neg c_2, if_neg c_3, if_neg c_4, if_neg c_5, if_neg c_6, if_neg c_7]).symm dX1_insertionsOf_98
def m_X0_signOf (ss : Nat → Int32) (n : Nat) (i : Nat) : Int32 := if n ≤ i then ((-1)) else (ss i)
set_option maxHeartbeats 4000000 in
set_option maxRecDepth 100000 in
theorem c_X0_signOf (l : Launch) (dC : Nat → ClassId) (dI : Nat → Nat → Nat) (h0 : Nat) (h1 : Nat) (h2 : Nat) (cA : ClassId) (sz : Nat) (ss : Nat → Int32) (n : Nat) (i : Nat) (hn : n ≤ 80) (hi : i ≤ 80) : Met l yX0_signOf wsX0_signOf ({ frames := 0, cells := 0, slots := 0, locals := 0 } : Room) (va_Pc [.ref h0, .int (nI i)] (rd_P (dC, dI) vwCl [(h0, .inr (1, [.ref h1, .ref h2, .int (nI sz)])), (h1, .inl (cA, n, .inl ss))] [(cA, .int)])) (vp_Si (fun r => r = m_X0_signOf ss n i)) 0 0 (fun _ => False) := by
  refine Met.ofW (cc := cX0_signOf) (maxL := 2) (ret := (some .int)) (by decide) rfl ?_
  intro p e s m args below meth c s₁ B hml hv
  obtain ⟨rfl, hE, hP, hK⟩ := hv
  have hx := B.exec
  have hb := B.bytes
  have hr := B.returns
  have hts := atoms_spec (ws := wsX0_signOf) B.pre
  have hown : s.vm.findClass RX0 = some m.cls := findClass_of_methodNamed B.named
  have hlocks := B.notSynchronized
  have hl := lv_entry ([.ref h0, .int (nI i)]) (n := 2) (Nat.le_of_ble_eq_true rfl)
  rw [lg_entry_eq]
  generalize (lg_sl ([.ref h0, .int (nI i)]) ++ List.replicate (2 - (lg_sl ([.ref h0, .int (nI i)])).length) Slot.unset).toArray = ls at hl ⊢
  have hl : lv_has ls 2 [(0, .ref h0), (1, .int (nI i))] := hl
  refine lv_iload_n hx hb dX0_signOf_0 rfl (lv_at hl 1 rfl) ?_
  refine lv_if_lt (tgt := 22) hx hb dX0_signOf_1 (by decide) (fun c_1 => ?_) (fun c_1 => ?_)
  · skip
    have c_1 : i < 0 := (nI_ltI (a := i) (b := 0) (by omega) (by omega)).mp c_1
    exfalso; omega
  · skip
    have c_1 : ¬ i < 0 := (fun q_ => c_1 ((nI_ltI (a := i) (b := 0) (by omega) (by omega)).mpr q_))
    refine lv_iload_n hx hb dX0_signOf_4 rfl (lv_at hl 1 rfl) ?_
    refine lv_aload_n hx hb dX0_signOf_5 rfl (lv_at hl 0 rfl) ?_
    refine va_get (D := (dC, dI)) (ci := 1) (v := .ref h1) (C := RX0) (T := TX0) (N := 3) hx hb hts (by decide +kernel) hown hK hP 0 rfl rfl 0 (by decide) (hts (.fieldLink RX0 21 "PictureRows$Effect" "signs" "[I") (by decide +kernel)) (fun _ h9 => h9) rfl dX0_signOf_6 ?_
    refine va_alen (v := nI n) hx hb hK hP 1 0 rfl rfl rfl dX0_signOf_9 ?_
    refine lv_icmp_ge (tgt := 22) hx hb dX0_signOf_10 (by decide) (fun c_2 => ?_) (fun c_2 => ?_)
    · skip
      have c_2 : n ≤ i := (nI_leI (a := n) (b := i) (by omega) (by omega)).mp c_2
      refine lv_iconst (v := (-1)) hx hb dX0_signOf_22 (by decide) ?_
      exact rd_iret (v := (-1)) hx hb hr hlocks (show m_X0_signOf ss n i = (-1) from by simp only [m_X0_signOf, if_pos c_2]).symm dX0_signOf_23
    · skip
      have c_2 : ¬ n ≤ i := (fun q_ => c_2 ((nI_leI (a := n) (b := i) (by omega) (by omega)).mpr q_))
      refine lv_aload_n hx hb dX0_signOf_13 rfl (lv_at hl 0 rfl) ?_
      refine va_get (D := (dC, dI)) (ci := 1) (v := .ref h1) (C := RX0) (T := TX0) (N := 3) hx hb hts (by decide +kernel) hown hK hP 0 rfl rfl 0 (by decide) (hts (.fieldLink RX0 21 "PictureRows$Effect" "signs" "[I") (by decide +kernel)) (fun _ h9 => h9) rfl dX0_signOf_14 ?_
      refine lv_iload_n hx hb dX0_signOf_17 rfl (lv_at hl 1 rfl) ?_
      refine rd_iald hx hb hK hP 1 0 rfl rfl (i) (by omega) (by omega) dX0_signOf_18 ?_
      refine lv_goto (tgt := 23) hx hb dX0_signOf_19 (by decide) ?_
      exact rd_iret (v := ss i) hx hb hr hlocks (show m_X0_signOf ss n i = ss i from by simp only [m_X0_signOf, if_neg c_2]).symm dX0_signOf_23
def m_X0_timesOf (ts : Nat → Int32) (n : Nat) (i : Nat) : Int32 := if n ≤ i then 0 else (ts i)
set_option maxHeartbeats 4000000 in
set_option maxRecDepth 100000 in
theorem c_X0_timesOf (l : Launch) (dC : Nat → ClassId) (dI : Nat → Nat → Nat) (h0 : Nat) (h1 : Nat) (h2 : Nat) (cA : ClassId) (sz : Nat) (ts : Nat → Int32) (n : Nat) (i : Nat) (hn : n ≤ 80) (hi : i ≤ 80) : Met l yX0_timesOf wsX0_timesOf ({ frames := 0, cells := 0, slots := 0, locals := 0 } : Room) (va_Pc [.ref h0, .int (nI i)] (rd_P (dC, dI) vwCl [(h0, .inr (1, [.ref h1, .ref h2, .int (nI sz)])), (h2, .inl (cA, n, .inl ts))] [(cA, .int)])) (vp_Si (fun r => r = m_X0_timesOf ts n i)) 0 0 (fun _ => False) := by
  refine Met.ofW (cc := cX0_timesOf) (maxL := 2) (ret := (some .int)) (by decide) rfl ?_
  intro p e s m args below meth c s₁ B hml hv
  obtain ⟨rfl, hE, hP, hK⟩ := hv
  have hx := B.exec
  have hb := B.bytes
  have hr := B.returns
  have hts := atoms_spec (ws := wsX0_timesOf) B.pre
  have hown : s.vm.findClass RX0 = some m.cls := findClass_of_methodNamed B.named
  have hlocks := B.notSynchronized
  have hl := lv_entry ([.ref h0, .int (nI i)]) (n := 2) (Nat.le_of_ble_eq_true rfl)
  rw [lg_entry_eq]
  generalize (lg_sl ([.ref h0, .int (nI i)]) ++ List.replicate (2 - (lg_sl ([.ref h0, .int (nI i)])).length) Slot.unset).toArray = ls at hl ⊢
  have hl : lv_has ls 2 [(0, .ref h0), (1, .int (nI i))] := hl
  refine lv_iload_n hx hb dX0_timesOf_0 rfl (lv_at hl 1 rfl) ?_
  refine lv_if_lt (tgt := 22) hx hb dX0_timesOf_1 (by decide) (fun c_1 => ?_) (fun c_1 => ?_)
  · skip
    have c_1 : i < 0 := (nI_ltI (a := i) (b := 0) (by omega) (by omega)).mp c_1
    exfalso; omega
  · skip
    have c_1 : ¬ i < 0 := (fun q_ => c_1 ((nI_ltI (a := i) (b := 0) (by omega) (by omega)).mpr q_))
    refine lv_iload_n hx hb dX0_timesOf_4 rfl (lv_at hl 1 rfl) ?_
    refine lv_aload_n hx hb dX0_timesOf_5 rfl (lv_at hl 0 rfl) ?_
    refine va_get (D := (dC, dI)) (ci := 1) (v := .ref h2) (C := RX0) (T := TX0) (N := 3) hx hb hts (by decide +kernel) hown hK hP 0 rfl rfl 1 (by decide) (hts (.fieldLink RX0 25 "PictureRows$Effect" "times" "[I") (by decide +kernel)) (fun _ h9 => h9) rfl dX0_timesOf_6 ?_
    refine va_alen (v := nI n) hx hb hK hP 1 0 rfl rfl rfl dX0_timesOf_9 ?_
    refine lv_icmp_ge (tgt := 22) hx hb dX0_timesOf_10 (by decide) (fun c_2 => ?_) (fun c_2 => ?_)
    · skip
      have c_2 : n ≤ i := (nI_leI (a := n) (b := i) (by omega) (by omega)).mp c_2
      refine lv_iconst (v := 0) hx hb dX0_timesOf_22 (by decide) ?_
      exact rd_iret (v := 0) hx hb hr hlocks (show m_X0_timesOf ts n i = 0 from by simp only [m_X0_timesOf, if_pos c_2]).symm dX0_timesOf_23
    · skip
      have c_2 : ¬ n ≤ i := (fun q_ => c_2 ((nI_leI (a := n) (b := i) (by omega) (by omega)).mpr q_))
      refine lv_aload_n hx hb dX0_timesOf_13 rfl (lv_at hl 0 rfl) ?_
      refine va_get (D := (dC, dI)) (ci := 1) (v := .ref h2) (C := RX0) (T := TX0) (N := 3) hx hb hts (by decide +kernel) hown hK hP 0 rfl rfl 1 (by decide) (hts (.fieldLink RX0 25 "PictureRows$Effect" "times" "[I") (by decide +kernel)) (fun _ h9 => h9) rfl dX0_timesOf_14 ?_
      refine lv_iload_n hx hb dX0_timesOf_17 rfl (lv_at hl 1 rfl) ?_
      refine rd_iald hx hb hK hP 1 0 rfl rfl (i) (by omega) (by omega) dX0_timesOf_18 ?_
      refine lv_goto (tgt := 23) hx hb dX0_timesOf_19 (by decide) ?_
      exact rd_iret (v := ts i) hx hb hr hlocks (show m_X0_timesOf ts n i = ts i from by simp only [m_X0_timesOf, if_neg c_2]).symm dX0_timesOf_23
def m_X0_equalTo_L19 (ss : Nat → Int32) (ts : Nat → Int32) (n : Nat) (sz : Nat) (us : Nat → Int32) (vs : Nat → Int32) (o : Nat) (tz : Nat) : Nat → Nat → Bool
  | 0, _ => false
  | k19 + 1, i => if sz ≤ i then true else (if (m_X0_signOf ss n i) = (m_X0_signOf us o i) then (if (m_X0_timesOf ts n i) = (m_X0_timesOf vs o i) then (m_X0_equalTo_L19 ss ts n sz us vs o tz k19 (i + 1)) else false) else false)
def m_X0_equalTo (ss : Nat → Int32) (ts : Nat → Int32) (n : Nat) (sz : Nat) (us : Nat → Int32) (vs : Nat → Int32) (o : Nat) (tz : Nat) : Bool := if tz = sz then (m_X0_equalTo_L19 ss ts n sz us vs o tz (sz + 1) 0) else false
set_option maxHeartbeats 4000000 in
set_option maxRecDepth 100000 in
theorem c_X0_equalTo (l : Launch) (dC : Nat → ClassId) (dI : Nat → Nat → Nat) (h0 : Nat) (h1 : Nat) (h2 : Nat) (g0 : Nat) (g1 : Nat) (g2 : Nat) (cA : ClassId) (ss : Nat → Int32) (ts : Nat → Int32) (n : Nat) (sz : Nat) (us : Nat → Int32) (vs : Nat → Int32) (o : Nat) (tz : Nat) (hn : n ≤ 80) (ho : o ≤ 80) (hsz : sz ≤ 80) (htz : tz ≤ 80) : Met l yX0_equalTo wsX0_equalTo ({ frames := 1, cells := 0, slots := 0, locals := 21 } : Room) (va_Pc [.ref h0, .ref g0] (rd_P (dC, dI) vwCl [(h0, .inr (1, [.ref h1, .ref h2, .int (nI sz)])), (h1, .inl (cA, n, .inl ss)), (h2, .inl (cA, n, .inl ts)), (g0, .inr (1, [.ref g1, .ref g2, .int (nI tz)])), (g1, .inl (cA, o, .inl us)), (g2, .inl (cA, o, .inl vs))] [(cA, .int)])) (vp_Si (fun r => r = bI (m_X0_equalTo ss ts n sz us vs o tz))) 0 0 (fun _ => False) := by
  refine Met.ofW (cc := cX0_equalTo) (maxL := 3) (ret := (some .boolean)) (by decide) rfl ?_
  intro p e s m args below meth c s₁ B hml hv
  obtain ⟨rfl, hE, hP, hK⟩ := hv
  have hx := B.exec
  have hb := B.bytes
  have hr := B.returns
  have hts := atoms_spec (ws := wsX0_equalTo) B.pre
  have hown : s.vm.findClass RX0 = some m.cls := findClass_of_methodNamed B.named
  have hlocks := B.notSynchronized
  have hl := lv_entry ([.ref h0, .ref g0]) (n := 3) (Nat.le_of_ble_eq_true rfl)
  rw [lg_entry_eq]
  generalize (lg_sl ([.ref h0, .ref g0]) ++ List.replicate (3 - (lg_sl ([.ref h0, .ref g0])).length) Slot.unset).toArray = ls at hl ⊢
  have hl : lv_has ls 3 [(0, .ref h0), (1, .ref g0)] := hl
  refine lv_aload_n hx hb dX0_equalTo_0 rfl (lv_at hl 1 rfl) ?_
  refine lv_ifnull hx hb dX0_equalTo_1 ?_
  refine lv_aload_n hx hb dX0_equalTo_4 rfl (lv_at hl 1 rfl) ?_
  refine va_get (D := (dC, dI)) (ci := 1) (v := .int (nI tz)) (C := RX0) (T := TX0) (N := 3) hx hb hts (by decide +kernel) hown hK hP 3 rfl rfl 2 (by decide) (hts (.fieldLink RX0 9 "PictureRows$Effect" "size" "I") (by decide +kernel)) (fun _ h9 => h9) rfl dX0_equalTo_5 ?_
  refine lv_aload_n hx hb dX0_equalTo_8 rfl (lv_at hl 0 rfl) ?_
  refine va_get (D := (dC, dI)) (ci := 1) (v := .int (nI sz)) (C := RX0) (T := TX0) (N := 3) hx hb hts (by decide +kernel) hown hK hP 0 rfl rfl 2 (by decide) (hts (.fieldLink RX0 9 "PictureRows$Effect" "size" "I") (by decide +kernel)) (fun _ h9 => h9) rfl dX0_equalTo_9 ?_
  refine lv_icmp_eq (tgt := 17) hx hb dX0_equalTo_12 (by decide) (fun c_1 => ?_) (fun c_1 => ?_)
  · skip
    have c_1 : tz = sz := (nI_eq (a := tz) (b := sz) (by omega) (by omega)).mp c_1
    refine lv_iconst (v := 0) hx hb dX0_equalTo_17 (by decide) ?_
    refine lv_istore_n (lv' := [(2, .int 0), (0, .ref h0), (1, .ref g0)]) hx hb dX0_equalTo_18 rfl hl (by decide) rfl (fun ls hl => ?_)
    have lp_19 : ∀ (k19 i : Nat), i ≤ sz → sz + 1 ≤ i + k19 → m_X0_equalTo ss ts n sz us vs o tz = m_X0_equalTo_L19 ss ts n sz us vs o tz k19 i → ∀ (ls : Array Slot), lv_has ls 3 [(0, .ref h0), (1, .ref g0), (2, .int (nI i))] → W p l e (headSpec wsX0_equalTo ({ frames := 1, cells := 0, slots := 0, locals := 21 } : Room)).room s m (([.ref h0, .ref g0] : List Value).toArray) below meth c s.heap [] 0 0 (MQ below (vp_Si (fun r => r = bI (m_X0_equalTo ss ts n sz us vs o tz))) (([.ref h0, .ref g0] : List Value).toArray) s 0 0 (fun _ => False)) (F0 m 19 ls []) := by
      intro k19
      induction k19 with
      | zero => intro i  h1_ h2_; exfalso; omega
      | succ k19 ih19 =>
        intro i  hb19 hf19  hm19 ls hl
        refine lv_iload_n hx hb dX0_equalTo_19 rfl (lv_at hl 2 rfl) ?_
        refine lv_aload_n hx hb dX0_equalTo_20 rfl (lv_at hl 0 rfl) ?_
        refine va_get (D := (dC, dI)) (ci := 1) (v := .int (nI sz)) (C := RX0) (T := TX0) (N := 3) hx hb hts (by decide +kernel) hown hK hP 0 rfl rfl 2 (by decide) (hts (.fieldLink RX0 9 "PictureRows$Effect" "size" "I") (by decide +kernel)) (fun _ h9 => h9) rfl dX0_equalTo_21 ?_
        refine lv_icmp_ge (tgt := 61) hx hb dX0_equalTo_24 (by decide) (fun c_2 => ?_) (fun c_2 => ?_)
        · skip
          have c_2 : sz ≤ i := (nI_leI (a := sz) (b := i) (by omega) (by omega)).mp c_2
          refine lv_iconst (v := 1) hx hb dX0_equalTo_61 (by decide) ?_
          exact rd_zret (v := 1) hx hb hr hlocks rfl (by rw [(show m_X0_equalTo ss ts n sz us vs o tz = true from hm19.trans (by simp only [m_X0_equalTo_L19, if_pos c_2]))]; rfl) dX0_equalTo_62
        · skip
          have c_2 : ¬ sz ≤ i := (fun q_ => c_2 ((nI_leI (a := sz) (b := i) (by omega) (by omega)).mpr q_))
          refine lv_aload_n hx hb dX0_equalTo_27 rfl (lv_at hl 0 rfl) ?_
          refine lv_iload_n hx hb dX0_equalTo_28 rfl (lv_at hl 2 rfl) ?_
          refine rd_callV (As := [.int (nI i)]) (rest := []) ⟨hx, hb, hml, hown, hts⟩ hE (c_X0_signOf l dC dI h0 h1 h2 cA sz ss n i (by omega) (by omega)) (cwV 1 hts gX0_equalTo_X0_signOf rfl rfl rfl (by decide +kernel) ⟨Nat.le_of_ble_eq_true rfl, Nat.le_of_ble_eq_true rfl⟩) (hP.sub (ws' := [(h0, .inr (1, [.ref h1, .ref h2, .int (nI sz)])), (h1, .inl (cA, n, .inl ss))]) [0, 1] rfl) (hK.sub [0] rfl) (va_recv hK hP (ci := 1) (q0 := 0) rfl rfl) rfl hl.1 rfl (Nat.le_of_ble_eq_true rfl) dX0_equalTo_29 ⟨Nat.zero_le _, Nat.zero_le _⟩ (fun r9 hr9 => ?_)
          subst hr9
          refine lv_aload_n hx hb dX0_equalTo_32 rfl (lv_at hl 1 rfl) ?_
          refine lv_iload_n hx hb dX0_equalTo_33 rfl (lv_at hl 2 rfl) ?_
          refine rd_callV (As := [.int (nI i)]) (rest := [.int (m_X0_signOf ss n i)]) ⟨hx, hb, hml, hown, hts⟩ hE (c_X0_signOf l dC dI g0 g1 g2 cA tz us o i (by omega) (by omega)) (cwV 1 hts gX0_equalTo_X0_signOf rfl rfl rfl (by decide +kernel) ⟨Nat.le_of_ble_eq_true rfl, Nat.le_of_ble_eq_true rfl⟩) (hP.sub (ws' := [(g0, .inr (1, [.ref g1, .ref g2, .int (nI tz)])), (g1, .inl (cA, o, .inl us))]) [3, 4] rfl) (hK.sub [0] rfl) (va_recv hK hP (ci := 1) (q0 := 3) rfl rfl) rfl hl.1 rfl (Nat.le_of_ble_eq_true rfl) dX0_equalTo_34 ⟨Nat.zero_le _, Nat.zero_le _⟩ (fun r9 hr9 => ?_)
          subst hr9
          refine lv_icmp_ne (tgt := 53) hx hb dX0_equalTo_37 (by decide) (fun c_3 => ?_) (fun c_3 => ?_)
          · skip
            refine lv_iconst (v := 0) hx hb dX0_equalTo_53 (by decide) ?_
            exact rd_zret (v := 0) hx hb hr hlocks rfl (by rw [(show m_X0_equalTo ss ts n sz us vs o tz = false from hm19.trans (by simp only [m_X0_equalTo_L19, if_neg c_2, if_neg c_3]))]; rfl) dX0_equalTo_54
          · skip
            refine lv_aload_n hx hb dX0_equalTo_40 rfl (lv_at hl 0 rfl) ?_
            refine lv_iload_n hx hb dX0_equalTo_41 rfl (lv_at hl 2 rfl) ?_
            refine rd_callV (As := [.int (nI i)]) (rest := []) ⟨hx, hb, hml, hown, hts⟩ hE (c_X0_timesOf l dC dI h0 h1 h2 cA sz ts n i (by omega) (by omega)) (cwV 1 hts gX0_equalTo_X0_timesOf rfl rfl rfl (by decide +kernel) ⟨Nat.le_of_ble_eq_true rfl, Nat.le_of_ble_eq_true rfl⟩) (hP.sub (ws' := [(h0, .inr (1, [.ref h1, .ref h2, .int (nI sz)])), (h2, .inl (cA, n, .inl ts))]) [0, 2] rfl) (hK.sub [0] rfl) (va_recv hK hP (ci := 1) (q0 := 0) rfl rfl) rfl hl.1 rfl (Nat.le_of_ble_eq_true rfl) dX0_equalTo_42 ⟨Nat.zero_le _, Nat.zero_le _⟩ (fun r9 hr9 => ?_)
            subst hr9
            refine lv_aload_n hx hb dX0_equalTo_45 rfl (lv_at hl 1 rfl) ?_
            refine lv_iload_n hx hb dX0_equalTo_46 rfl (lv_at hl 2 rfl) ?_
            refine rd_callV (As := [.int (nI i)]) (rest := [.int (m_X0_timesOf ts n i)]) ⟨hx, hb, hml, hown, hts⟩ hE (c_X0_timesOf l dC dI g0 g1 g2 cA tz vs o i (by omega) (by omega)) (cwV 1 hts gX0_equalTo_X0_timesOf rfl rfl rfl (by decide +kernel) ⟨Nat.le_of_ble_eq_true rfl, Nat.le_of_ble_eq_true rfl⟩) (hP.sub (ws' := [(g0, .inr (1, [.ref g1, .ref g2, .int (nI tz)])), (g2, .inl (cA, o, .inl vs))]) [3, 5] rfl) (hK.sub [0] rfl) (va_recv hK hP (ci := 1) (q0 := 3) rfl rfl) rfl hl.1 rfl (Nat.le_of_ble_eq_true rfl) dX0_equalTo_47 ⟨Nat.zero_le _, Nat.zero_le _⟩ (fun r9 hr9 => ?_)
            subst hr9
            refine lv_icmp_eq (tgt := 55) hx hb dX0_equalTo_50 (by decide) (fun c_4 => ?_) (fun c_4 => ?_)
            · skip
              refine lv_iinc (v := nI (i + 1)) (lv' := [(2, .int (nI (i + 1))), (0, .ref h0), (1, .ref g0)]) hx hb dX0_equalTo_55 hl (k := 2) rfl (nI_add (i) 1) (by decide) rfl (fun ls hl => ?_)
              refine lv_goto (tgt := 19) hx hb dX0_equalTo_58 (by decide) ?_
              exact ih19 (i + 1)  (by omega) (by omega)  (hm19.trans (by simp only [m_X0_equalTo_L19, if_neg c_2, if_pos c_3, if_pos c_4])) ls (lv_sub hl [1, 2, 0] rfl)
            · skip
              refine lv_iconst (v := 0) hx hb dX0_equalTo_53 (by decide) ?_
              exact rd_zret (v := 0) hx hb hr hlocks rfl (by rw [(show m_X0_equalTo ss ts n sz us vs o tz = false from hm19.trans (by simp only [m_X0_equalTo_L19, if_neg c_2, if_pos c_3, if_neg c_4]))]; rfl) dX0_equalTo_54
    exact lp_19 (sz + 1) (0)  (by omega) (by omega)  (show m_X0_equalTo ss ts n sz us vs o tz = m_X0_equalTo_L19 ss ts n sz us vs o tz (sz + 1) 0 from by simp only [m_X0_equalTo, if_pos c_1]) ls (lv_sub hl [1, 2, 0] rfl)
  · skip
    have c_1 : ¬ tz = sz := (fun q_ => c_1 ((nI_eq (a := tz) (b := sz) (by omega) (by omega)).mpr q_))
    refine lv_iconst (v := 0) hx hb dX0_equalTo_15 (by decide) ?_
    exact rd_zret (v := 0) hx hb hr hlocks rfl (by rw [(show m_X0_equalTo ss ts n sz us vs o tz = false from by simp only [m_X0_equalTo, if_neg c_1])]; rfl) dX0_equalTo_16
end
