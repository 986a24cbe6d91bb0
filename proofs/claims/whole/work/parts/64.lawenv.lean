/-! the law's environment, from the Statement's start -/
def lwTm : Nat → Term := fun i => match i with
  | 0 => .string "PictureRows$Text" 26
  | 1 => .string "PictureRows" 136
  | _ => .string "PictureRows" 83
theorem nwF_in : ∀ q ∈ nwF, Cond.fieldLinkNest q.1 q.2.1 q.2.2.1 q.2.2.2.1 q.2.2.2.2 "PictureRows" ∈ tables_1 := by decide +kernel
theorem nwM_in : ∀ q ∈ nwM, Cond.methodLinkNest q.1 q.2.1 q.2.2 "PictureRows" ∈ tables_1 := by decide +kernel
theorem thD_in : ∀ x ∈ thD, Cond.declares x ∈ tables_1 := by decide +kernel
set_option maxRecDepth 20000 in
theorem law_EV {s : State} {b : Nat} (hts : ∀ w ∈ lw_tbl, w.before #[Value.ref b] s = true) (hgv : (Jvm.Cond.and given_1 narrow_1).before #[Value.ref b] s = true) : EV (gA s) s s.heap ∧ THc (gA s) s s.heap := by
  have hs := flat_of_before _ hgv
  have ht : ∀ w ∈ tables_1, w.before #[Value.ref b] s = true := fun w h => hts w (List.mem_append_right _ h)
  have hA : ∀ a : Nat, a < s.heap.size → ¬ gA s a := fun a h => Nat.not_le.mpr h
  obtain ⟨tA, htm, hT⟩ := va_Tof (args := #[Value.ref b]) (s := s) (tm := .static "PictureRows" "MAY_COME_BEHIND" "[I") (ty := .int) (N := 19) (f := fun j => .int (tbL.getD j 0)) (by decide) (hs (.arrayOf (.static "PictureRows" "MAY_COME_BEHIND" "[I") .int) (by decide +kernel))
    (va_eqv (hs (.eq (.length (.static "PictureRows" "MAY_COME_BEHIND" "[I")) (.int 19)) (by decide +kernel)) rfl)
    (fun j hj => va_eqv (hs (.eq (.elem (.static "PictureRows" "MAY_COME_BEHIND" "[I") (.int (Int32.ofNat j))) (.int (tbL.getD j 0))) (by revert j; decide +kernel)) rfl) hA
  have hZ : va_Z "PictureRows" "MAY_COME_BEHIND" "[I" (.ref tA) (gA s) s s.heap := va_Zof (ht (.laysStatic "PictureRows" "MAY_COME_BEHIND" "[I") (by decide +kernel)) (ht (.initialized "PictureRows") (by decide +kernel)) htm hA
  have hCS : va_Z "java/lang/String" "COMPACT_STRINGS" "Z" (.int 1) (gA s) s s.heap := va_Zof (ht (.laysStatic "java/lang/String" "COMPACT_STRINGS" "Z") (by decide +kernel)) (ht (.initialized "java/lang/String") (by decide +kernel)) (va_eqi (hs (.eq (.static "java/lang/String" "COMPACT_STRINGS" "Z") (.int 1)) (by decide +kernel))) hA
  obtain ⟨adK, adV, hSt, had⟩ := vk_Sof (args := #[Value.ref b]) (s := s) (N := 3) (tm := lwTm) (len := evLen) (byt := evByt) (A := gA s) (by decide +kernel)
    (fun i hi => hs _ (by revert i; decide +kernel)) (fun i hi => hs _ (by revert i; decide +kernel)) (fun i hi => hs _ (by revert i; decide +kernel)) (fun i hi => hs _ (by revert i; decide +kernel)) (fun i hi j hj => hs _ (by revert i j; decide +kernel))
    (fun i j hi hj hne => by
      rcases (show (i = 0 ∧ j = 1) ∨ (i = 1 ∧ j = 0) ∨ (i = 0 ∧ j = 2) ∨ (i = 2 ∧ j = 0) ∨ (i = 1 ∧ j = 2) ∨ (i = 2 ∧ j = 1) by omega) with ⟨rfl, rfl⟩ | ⟨rfl, rfl⟩ | ⟨rfl, rfl⟩ | ⟨rfl, rfl⟩ | ⟨rfl, rfl⟩ | ⟨rfl, rfl⟩
      · exact Or.inl (hs _ (by decide +kernel))
      · exact Or.inr (hs _ (by decide +kernel))
      · exact Or.inl (hs _ (by decide +kernel))
      · exact Or.inr (hs _ (by decide +kernel))
      · exact Or.inl (hs _ (by decide +kernel))
      · exact Or.inr (hs _ (by decide +kernel))) hA
  refine ⟨⟨⟨fun q hq => va_Nw.of rfl (ht _ (nwF_in q hq)), fun q hq => va_Nw.of rfl (ht _ (nwM_in q hq))⟩, ⟨tA, hZ, hT⟩, hCS, adK, adV, hSt, vk_R.of (ht (.stringRef "PictureRows$Text" 26 evT0) (by decide +kernel)) (had 0 (by decide)), vk_R.of (ht (.stringRef "PictureRows" 136 evT1) (by decide +kernel)) (had 1 (by decide)), vk_R.of (ht (.stringRef "PictureRows" 83 evT2) (by decide +kernel)) (had 2 (by decide)), va_Nw.of rfl (ht (.castable "[I" "java/lang/Cloneable") (by decide +kernel)), va_AO.of (ht (.arrayOver (.object "PictureRows$Picture")) (by decide +kernel))⟩, ?_⟩
  exact ⟨fun x hx => va_Nw.of rfl (ht _ (thD_in x hx)), va_Nw.of rfl (ht (.castable RJx00060 RJx00060) (by decide +kernel)), TS.of (ht (.laysStatic Jvm.Bundle.tN "UNASSIGNED_STACK" Jvm.Bundle.steD) (by decide +kernel)) (hs (.isRef (.static Jvm.Bundle.tN "UNASSIGNED_STACK" Jvm.Bundle.steD)) (by decide +kernel)) hA, TS.of (ht (.laysStatic Jvm.Bundle.tN "SUPPRESSED_SENTINEL" Jvm.Bundle.listD) (by decide +kernel)) (hs (.isRef (.static Jvm.Bundle.tN "SUPPRESSED_SENTINEL" Jvm.Bundle.listD)) (by decide +kernel)) hA⟩
