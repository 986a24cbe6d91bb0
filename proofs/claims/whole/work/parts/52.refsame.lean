/-! the mathematics, 13: the reference's equal effect -/
theorem dk_tab : ∀ k, k < 19 → ∀ x : Bool, (if x = false then (if nI k ≤ 5 then (if nI k = 16 then true else (if nI k = 17 then true else false)) else (if nI k < 13 then true else (if nI k = 16 then true else (if nI k = 17 then true else false)))) else true) = (x || dkK k) := by decide +kernel
section IDL
variable {kk : Nat → Int32} {fr ax n : Nat}
theorem idl_1 : ∀ (T : List KRun) f i x4 x5, (∀ t a, T[t]? = some a → kk (fr + (i + t)) = nI a.2) → (∀ a ∈ T, a.2 < 19) → i + T.length ≤ ax → ax < n → T.length < f → m_X5_isIdle_L9 kk fr ax n f i x4 x5 = m_X5_isIdle_L9 kk fr ax n (f - T.length) (i + T.length) x4 (x5 || T.any (fun a => a.2 == 17)) := by
  intro T
  induction T with
  | nil => intro f i x4 x5 _ _ _ _ _; show _ = m_X5_isIdle_L9 kk fr ax n f i x4 (x5 || false); rw [Bool.or_false]
  | cons a T ih =>
    intro f i x4 x5 hT hK hm hn hf
    obtain ⟨f, rfl⟩ : ∃ q, f = q + 1 := ⟨f - 1, by omega⟩
    rw [List.length_cons] at hm hf
    have a1 := hT 0 a rfl
    rw [Nat.add_zero] at a1
    have hk := hK a (List.mem_cons_self ..)
    have e4 : m_X5_isIdle_j66_s0 kk fr ax i x4 = x4 := by
      unfold m_X5_isIdle_j66_s0
      rw [if_pos (show i ≤ ax by omega)]; cases x4 <;> rfl
    have e5 : m_X5_isIdle_j104_s0 kk fr ax i x5 = (x5 || a.2 == 17) := by
      unfold m_X5_isIdle_j104_s0
      rw [if_neg (show ¬ ax ≤ i by omega), if_pos (show i ≤ ax by omega), a1]
      have h17 : (nI a.2 = 17) ↔ a.2 = 17 := nI_eq (b := 17) (by omega) (by omega)
      by_cases c : a.2 = 17
      · rw [if_pos (h17.mpr c), beq_iff_eq.mpr c]; cases x5 <;> rfl
      · rw [if_neg (fun h => c (h17.mp h)), beq_eq_false_iff_ne.mpr c]; cases x5 <;> rfl
    rw [m_X5_isIdle_L9, if_neg (by omega), e4, e5, ih f (i + 1) _ _ (fun t r' hr => by rw [show i + 1 + t = i + (t + 1) by omega]; exact hT (t + 1) r' hr) (fun x hx => hK x (List.mem_cons_of_mem _ hx)) (by omega) hn (by omega), List.length_cons, show f + 1 - (T.length + 1) = f - T.length by omega, show i + 1 + T.length = i + (T.length + 1) by omega]
    show _ = m_X5_isIdle_L9 kk fr ax n _ _ x4 (x5 || (a.2 == 17 || T.any (fun a => a.2 == 17)))
    rw [Bool.or_assoc]
theorem idl_3 : ∀ (T : List KRun) f i x4 x5, (∀ t a, T[t]? = some a → kk (fr + (i + t)) = nI a.2) → (∀ a ∈ T, a.2 < 19) → n = i + T.length → ax < i → T.length < f → m_X5_isIdle_L9 kk fr ax n f i x4 x5 = (!(x4 || T.any (fun a => dkK a.2)) || (x5 || T.any (fun a => a.2 == 16))) := by
  intro T
  induction T with
  | nil =>
    intro f i x4 x5 _ _ hm _ hf
    obtain ⟨f, rfl⟩ : ∃ q, f = q + 1 := ⟨f - 1, by omega⟩
    rw [m_X5_isIdle_L9, if_pos (by rw [hm]; simp)]
    show _ = (!(x4 || false) || (x5 || false))
    cases x4 <;> cases x5 <;> rfl
  | cons a T ih =>
    intro f i x4 x5 hT hK hm hn hf
    obtain ⟨f, rfl⟩ : ∃ q, f = q + 1 := ⟨f - 1, by omega⟩
    rw [List.length_cons] at hm hf
    have a1 := hT 0 a rfl
    rw [Nat.add_zero] at a1
    have hk := hK a (List.mem_cons_self ..)
    have e4 : m_X5_isIdle_j66_s0 kk fr ax i x4 = (x4 || dkK a.2) := by
      unfold m_X5_isIdle_j66_s0
      rw [if_neg (show ¬ i ≤ ax by omega), a1]
      exact dk_tab a.2 hk x4
    have e5 : m_X5_isIdle_j104_s0 kk fr ax i x5 = (x5 || a.2 == 16) := by
      unfold m_X5_isIdle_j104_s0
      rw [if_pos (show ax ≤ i by omega), if_neg (show ¬ i ≤ ax by omega), a1]
      have h16 : (nI a.2 = 16) ↔ a.2 = 16 := nI_eq (b := 16) (by omega) (by omega)
      by_cases c : a.2 = 16
      · rw [if_pos (h16.mpr c), beq_iff_eq.mpr c]; cases x5 <;> rfl
      · rw [if_neg (fun h => c (h16.mp h)), beq_eq_false_iff_ne.mpr c]; cases x5 <;> rfl
    rw [m_X5_isIdle_L9, if_neg (by omega), e4, e5, ih f (i + 1) _ _ (fun t r' hr => by rw [show i + 1 + t = i + (t + 1) by omega]; exact hT (t + 1) r' hr) (fun x hx => hK x (List.mem_cons_of_mem _ hx)) (by omega) (by omega) (by omega)]
    show _ = (!(x4 || (dkK a.2 || T.any (fun a => dkK a.2))) || (x5 || (a.2 == 16 || T.any (fun a => a.2 == 16))))
    rw [Bool.or_assoc, Bool.or_assoc]
end IDL
theorem sdg_app : ∀ (S T A : List KRun), sdg A (S ++ T) = sdg A S + sdg (A ++ S) T := by
  intro S
  induction S with
  | nil => intro T A; show sdg A T = 0 + sdg (A ++ []) T; rw [List.append_nil, Nat.zero_add]
  | cons q S ih =>
    intro T A
    show dgs A q q.1.2.1 + sdg (A ++ [q]) (S ++ T) = (dgs A q q.1.2.1 + sdg (A ++ [q]) S) + sdg (A ++ q :: S) T
    rw [ih, List.append_assoc, Nat.add_assoc]; rfl
theorem sdg_at {A B C : List KRun} {x : KRun} : dgs (A ++ B) x x.1.2.1 ≤ sdg A (B ++ x :: C) := by
  rw [sdg_app]
  show _ ≤ sdg A B + (dgs (A ++ B) x x.1.2.1 + sdg _ C)
  omega
theorem flk_dup : ∀ k ∈ vsL, ∀ m b p f : Bool, flk (kd (nI k) m b p f) = true → dup (nI k) = true := by decide +kernel
theorem dis_tab : ∀ k, k < 19 → ¬ (isDk k = true ∧ flk k = true) := by decide +kernel
theorem has_in {s : Int32} {A : List KRun} {x : KRun} (h : x ∈ A) (e : x.1.1 = s) : hasS s A = true := List.any_eq_true.mpr ⟨x, h, beq_iff_eq.mpr e⟩
/-- a digit kind behind: a digit behind -/
theorem dk_digit {Q A B : List KRun} (hG : GQ Q) (hQ : Q = A ++ B) : sdg A B = 0 ↔ B.any (fun a => dkK a.2) = false := by
  have hK := hG.kok
  have hB : ∀ b ∈ B, KOK b := fun b hb => hK b (by rw [hQ]; exact List.mem_append_right _ hb)
  constructor
  · intro h0
    apply bf.mpr
    intro ha
    obtain ⟨q, hq, e⟩ := List.any_eq_true.mp ha
    obtain ⟨B1, B2, rfl⟩ := List.append_of_mem hq
    have hkq := hB q hq
    obtain ⟨-, n1, -⟩ := id hkq
    have h1 := sdg_at (A := A) (B := B1) (C := B2) (x := q)
    rw [h0] at h1
    have h1 : dgs (A ++ B1) q q.1.2.1 = 0 := by omega
    unfold dgs at h1
    by_cases d : isDk q.2 = true
    · rw [if_pos d] at h1; omega
    · have fl : flk q.2 = true := by
        unfold dkK at e
        rcases Bool.or_eq_true_iff.mp e with e | e
        · exact absurd e d
        · exact e
      rw [if_neg d, if_pos fl] at h1
      by_cases hs : hasS q.1.1 (A ++ B1) = true
      · rw [if_pos hs] at h1; omega
      · rw [if_neg hs] at h1
        have hd : dup q.1.1 = true := kok_of hkq (P := fun s k => flk k = true → dup s = true) flk_dup fl
        have hqQ : q ∈ Q := by rw [hQ]; exact List.mem_append_right _ hq
        have hm := hG.many q hqQ hd
        rw [fl] at hm
        have hm2 : 1 < sumT q.1.1 (Q.map (·.1)) := of_decide_eq_true hm.symm
        rw [cnt_sumT, hQ, ← cnt_exq] at hm2
        have hex : exq (A ++ (B1 ++ q :: B2)) = exq (A ++ B1) ++ (List.replicate q.1.2.1 q ++ exq B2) := by rw [← List.append_assoc, exq_app]; rfl
        rw [hex, List.countP_append, List.countP_append, List.countP_replicate, if_pos (beq_iff_eq.mpr rfl), cnt_exq, cnt_exq] at hm2
        have hA1 : ∀ a ∈ A ++ B1, KOK a := fun a ha => hK a (by rw [hQ, ← List.append_assoc]; exact List.mem_append_left _ ha)
        have z1 : cnt (fun a => a.1.1 == q.1.1) (A ++ B1) = 0 := by
          rcases Nat.eq_zero_or_pos (cnt (fun a => a.1.1 == q.1.1) (A ++ B1)) with z | z
          · exact z
          · exact absurd ((cnt_pos hA1).mp z) hs
        have hB2 : ∀ a ∈ B2, KOK a := fun a ha => hB a (List.mem_append_right _ (List.mem_cons_of_mem _ ha))
        have p2 : 0 < cnt (fun a => a.1.1 == q.1.1) B2 := by omega
        obtain ⟨x, hx, hxs⟩ := List.any_eq_true.mp ((cnt_pos hB2).mp p2)
        have hxs := beq_iff_eq.mp hxs
        obtain ⟨C1, C2, rfl⟩ := List.append_of_mem hx
        have hxQ : x ∈ Q := by rw [hQ]; exact List.mem_append_right _ (List.mem_append_right _ (List.mem_cons_of_mem _ hx))
        have hmx := hG.many x hxQ (by rw [hxs]; exact hd)
        rw [hxs, ← hG.many q hqQ hd, fl] at hmx
        have hkx := hK x hxQ
        obtain ⟨-, nx, -⟩ := id hkx
        have h2 := sdg_at (A := A) (B := B1 ++ q :: C1) (C := C2) (x := x)
        rw [show (B1 ++ q :: C1) ++ x :: C2 = B1 ++ q :: (C1 ++ x :: C2) by rw [List.append_assoc]; rfl, h0] at h2
        have h2 : dgs (A ++ (B1 ++ q :: C1)) x x.1.2.1 = 0 := by omega
        unfold dgs at h2
        rw [if_neg (fun h => dis_tab x.2 (kok_lt hkx) ⟨h, hmx⟩), if_pos hmx, if_pos (has_in (x := q) (List.mem_append_right _ (List.mem_append_right _ (List.mem_cons_self ..))) hxs.symm)] at h2
        omega
  · intro h0
    have : ∀ (S A' : List KRun), (∀ a ∈ S, dkK a.2 = false) → sdg A' S = 0 := by
      intro S
      induction S with
      | nil => intro _ _; rfl
      | cons q S ih =>
        intro A' h
        show dgs A' q q.1.2.1 + sdg (A' ++ [q]) S = 0
        rw [ih _ (fun a ha => h a (List.mem_cons_of_mem _ ha))]
        have e := h q (List.mem_cons_self ..)
        unfold dkK at e
        obtain ⟨e1, e2⟩ := Bool.or_eq_false_iff.mp e
        unfold dgs
        rw [e1, e2]; rfl
    exact this B A (fun a ha => bf.mpr (List.any_eq_false.mp h0 a ha))
theorem any_cg {α : Type} {p q : α → Bool} : ∀ {l : List α}, (∀ a ∈ l, p a = q a) → l.any p = l.any q := by
  intro l
  induction l with
  | nil => intro _; rfl
  | cons a l ih =>
    intro h
    show (p a || l.any p) = (q a || l.any q)
    rw [h a (List.mem_cons_self ..), ih (fun x hx => h x (List.mem_cons_of_mem _ hx))]
theorem al_v : al 2 15 = false ∧ al 15 15 = false ∧ al 16 15 = false ∧ al 15 17 = false := by decide +kernel
theorem tw_all {α : Type} {p : α → Bool} : ∀ {A : List α} {v : α} {B : List α}, (∀ a ∈ A, p a = true) → p v = false → (A ++ v :: B).takeWhile p = A ∧ (A ++ v :: B).dropWhile p = v :: B := by
  intro A
  induction A with
  | nil => intro v B _ hv; exact ⟨by show (v :: B).takeWhile p = []; rw [List.takeWhile_cons, hv]; rfl, by show (v :: B).dropWhile p = _; rw [List.dropWhile_cons, hv]; rfl⟩
  | cons a A ih =>
    intro v B h hv
    obtain ⟨h1, h2⟩ := ih (B := B) (fun x hx => h x (List.mem_cons_of_mem _ hx)) hv
    have ha := h a (List.mem_cons_self ..)
    constructor
    · show (a :: (A ++ v :: B)).takeWhile p = _; rw [List.takeWhile_cons, ha, if_pos rfl, h1]
    · show (a :: (A ++ v :: B)).dropWhile p = _; rw [List.dropWhile_cons, ha, if_pos rfl, h2]
/-- the sign V of a good picture: the class's word and the reference's -/
theorem idle_v {Q A B : List KRun} {v : KRun} (hG : GQ Q) (hQ : Q = A ++ v :: B) (hv : v.2 = 15) : idleQ Q = (!(B.any (fun a => dkK a.2)) || (A.any (fun a => a.2 == 17) || B.any (fun a => a.2 == 16))) := by
  have hpw := hG.pw
  rw [hQ] at hpw
  obtain ⟨-, pB, pA⟩ := List.pairwise_append.mp hpw
  have hAv : ∀ a ∈ A, al a.2 15 = true := fun a ha => by rw [← hv]; exact pA a ha v (List.mem_cons_self ..)
  have hvB : ∀ b ∈ B, al 15 b.2 = true := fun b hb => by rw [← hv]; exact (List.pairwise_cons.mp pB).1 b hb
  have nA : ∀ a ∈ A, a.2 ≠ 2 ∧ a.2 ≠ 15 ∧ a.2 ≠ 16 := fun a ha => by
    have := hAv a ha
    refine ⟨fun e => ?_, fun e => ?_, fun e => ?_⟩ <;> rw [e] at this
    · rw [al_v.1] at this; cases this
    · rw [al_v.2.1] at this; cases this
    · rw [al_v.2.2.1] at this; cases this
  have nB : ∀ b ∈ B, b.2 ≠ 17 := fun b hb e => by
    have := hvB b hb
    rw [e, al_v.2.2.2] at this; cases this
  have hpt : ∀ a ∈ A, (!ptK a.2) = true := fun a ha => by
    obtain ⟨e1, e2, e3⟩ := nA a ha
    unfold ptK
    rw [beq_eq_false_iff_ne.mpr e1, beq_eq_false_iff_ne.mpr e2, beq_eq_false_iff_ne.mpr e3]; rfl
  have hvp : (!ptK v.2) = false := by rw [hv]; rfl
  obtain ⟨t1, t2⟩ := tw_all (p := fun a : KRun => !ptK a.2) (B := B) hpt hvp
  have hp : preP Q = A := by unfold preP; rw [hQ]; exact t1
  have hs : sufP Q = v :: B := by unfold sufP; rw [hQ]; exact t2
  have hsd := dk_digit hG hQ
  have hav : (v :: B).any (fun a => dkK a.2) = B.any (fun a => dkK a.2) := by
    show (dkK v.2 || _) = _; rw [hv]; rfl
  rw [hav] at hsd
  unfold idleQ
  rw [hp, hs]
  have e1 : decide (sdg A (v :: B) = 0) = !(B.any (fun a => dkK a.2)) := by
    cases hb : B.any (fun a => dkK a.2) with
    | false => exact decide_eq_true (hsd.mpr hb)
    | true => exact decide_eq_false (fun h => by rw [hsd.mp h] at hb; cases hb)
  rw [e1]
  congr 1
  rw [hQ, List.any_append]
  have e2 : A.any (fun a => a.2 == 16 || a.2 == 17) = A.any (fun a => a.2 == 17) := any_cg (fun a ha => by rw [beq_eq_false_iff_ne.mpr (nA a ha).2.2, Bool.false_or])
  have e3 : (v :: B).any (fun a => a.2 == 16 || a.2 == 17) = B.any (fun a => a.2 == 16) := by
    show ((v.2 == 16 || v.2 == 17) || B.any (fun a => a.2 == 16 || a.2 == 17)) = _
    rw [hv]
    show (false || _) = _
    rw [Bool.false_or]
    exact any_cg (fun a ha => by rw [beq_eq_false_iff_ne.mpr (nB a ha), Bool.or_false])
  rw [e2, e3]
theorem idle_ref {Q : List KRun} {sa ka : Nat → Int32} {fr n j : Nat} {v : KRun} (hG : GQ Q) (hR : RS Q sa ka fr n) (hj : (exq Q)[j]? = some v) (hv : v.2 = 15) : m_X5_isIdle ka fr j n = idleQ Q := by
  have hvQ : v ∈ Q := exq_mem (List.mem_of_getElem? hj)
  have hpw := hG.pw
  obtain ⟨A, B, hQ⟩ := List.append_of_mem hvQ
  have hK := hG.kok
  obtain ⟨-, n1, -⟩ := hK v hvQ
  have hn1 : v.1.2.1 = 1 := by
    rcases Nat.lt_or_ge 1 v.1.2.1 with c | c
    · have := hG.two v hvQ c
      rw [hv, al_v.2.1] at this; cases this
    · omega
  rw [hQ] at hpw
  obtain ⟨-, pB, pA⟩ := List.pairwise_append.mp hpw
  have nA : ∀ a ∈ A, a.2 ≠ 15 := fun a ha e => by
    have := pA a ha v (List.mem_cons_self ..)
    rw [e, hv, al_v.2.1] at this; cases this
  have nB : ∀ a ∈ B, a.2 ≠ 15 := fun a ha e => by
    have := (List.pairwise_cons.mp pB).1 a ha
    rw [e, hv, al_v.2.1] at this; cases this
  have hx : exq Q = exq A ++ v :: exq B := by
    rw [hQ, exq_app]
    show exq A ++ (List.replicate v.1.2.1 v ++ exq B) = _
    rw [hn1]; rfl
  have hjA : j = (exq A).length := by
    rw [hx] at hj
    rcases Nat.lt_or_ge j (exq A).length with c | c
    · rw [List.getElem?_append_left c] at hj
      exact absurd hv (nA v (exq_mem (List.mem_of_getElem? hj)))
    · rcases Nat.eq_or_lt_of_le c with d | d
      · exact d.symm
      · rw [List.getElem?_append_right c, show j - (exq A).length = (j - (exq A).length - 1) + 1 by omega, List.getElem?_cons_succ] at hj
        exact absurd hv (nB v (exq_mem (List.mem_of_getElem? hj)))
  have hla : n = (exq A).length + 1 + (exq B).length := by rw [hR.1, hx, List.length_append, List.length_cons]; omega
  have hKA : ∀ a ∈ A, KOK a := fun a ha => hK a (by rw [hQ]; exact List.mem_append_left _ ha)
  have hKB : ∀ a ∈ B, KOK a := fun a ha => hK a (by rw [hQ]; exact List.mem_append_right _ (List.mem_cons_of_mem _ ha))
  show m_X5_isIdle_L9 ka fr j n (n + 1) 0 false false = _
  rw [idl_1 (kk := ka) (fr := fr) (ax := j) (n := n) (exq A) (n + 1) 0 false false (fun t a h => by
    rw [Nat.zero_add]
    refine (hR.2 t a ?_).2
    rw [hx, List.getElem?_append_left (List.getElem?_eq_some_iff.mp h).1]; exact h) (fun a ha => kok_lt (hKA a (exq_mem ha))) (by omega) (by omega) (by omega), Nat.zero_add, Bool.false_or, ← hjA, show n + 1 - j = (n - j) + 1 by omega, m_X5_isIdle_L9, if_neg (by omega)]
  have e4 : m_X5_isIdle_j66_s0 ka fr j j false = false := by
    unfold m_X5_isIdle_j66_s0
    rw [if_pos rfl, if_pos (Nat.le_refl _)]
  have e5 : ∀ x : Bool, m_X5_isIdle_j104_s0 ka fr j j x = x := fun x => by
    unfold m_X5_isIdle_j104_s0
    rw [if_pos (Nat.le_refl _), if_pos (Nat.le_refl _)]; cases x <;> rfl
  rw [e4, e5, idl_3 (kk := ka) (fr := fr) (ax := j) (n := n) (exq B) (n - j) (j + 1) false _ (fun t a h => by
    refine (hR.2 (j + 1 + t) a ?_).2
    rw [hx, List.getElem?_append_right (by omega), show j + 1 + t - (exq A).length = t + 1 by omega, List.getElem?_cons_succ]; exact h) (fun a ha => kok_lt (hKB a (exq_mem ha))) (by omega) (by omega) (by omega), exq_any hKA, exq_any hKB, exq_any hKB, Bool.false_or]
  exact (idle_v hG hQ hv).symm
section BAR
variable {Q : List KRun} {sa ka : Nat → Int32} {fr n : Nat}
theorem bare_run (hG : GQ Q) (hR : RS Q sa ka fr n) : ∀ (T : List KRun) f i x ta, (∀ t a, T[t]? = some a → (exq Q)[i + t]? = some a) → n = i + T.length → T.length < f → ∃ ta2, m_X5_bare_L6 sa ka fr n f i x ta = (x + (T.filter (keepV Q)).length, ta2) ∧ (∀ j, j < x → ta2 j = ta j) ∧ (∀ j a, (T.filter (keepV Q))[j]? = some a → ta2 (x + j) = tau a.1.1) := by
  intro T
  induction T with
  | nil =>
    intro f i x ta _ hm hf
    obtain ⟨f, rfl⟩ : ∃ q, f = q + 1 := ⟨f - 1, by omega⟩
    rw [m_X5_bare_L6, if_pos (by rw [hm]; simp)]
    exact ⟨ta, rfl, fun _ _ => rfl, fun j a h => nomatch h⟩
  | cons a T ih =>
    intro f i x ta hT hm hf
    obtain ⟨f, rfl⟩ : ∃ q, f = q + 1 := ⟨f - 1, by omega⟩
    rw [List.length_cons] at hm hf
    have ha := hT 0 a rfl
    rw [Nat.add_zero] at ha
    obtain ⟨r1, r2⟩ := hR.2 i a ha
    have hka := hG.kok a (exq_mem (List.mem_of_getElem? ha))
    have hk19 := kok_lt hka
    have e : m_X5_bare_j39_s0 ka fr n i = !keepV Q a := by
      unfold m_X5_bare_j39_s0 keepV
      rw [r2, Bool.not_not]
      have h15 : (nI a.2 = 15) ↔ a.2 = 15 := nI_eq (b := 15) (by omega) (by omega)
      by_cases c : a.2 = 15
      · rw [if_pos (h15.mpr c), idle_ref hG hR ha c, c]
        cases idleQ Q <;> rfl
      · rw [if_neg (fun h => c (h15.mp h)), beq_eq_false_iff_ne.mpr c]; rfl
    have hT' : ∀ t b, T[t]? = some b → (exq Q)[i + 1 + t]? = some b := fun t b h => by rw [show i + 1 + t = i + (t + 1) by omega]; exact hT (t + 1) b h
    rw [m_X5_bare_L6, if_neg (by omega), e]
    cases hk : keepV Q a with
    | true =>
      obtain ⟨ta2, g1, g2, g3⟩ := ih f (i + 1) (x + 1) (upd ta x (sa (fr + i))) hT' (by omega) (by omega)
      rw [List.filter_cons, hk, if_pos rfl, if_pos (show (!true) = false from rfl)]
      refine ⟨ta2, ?_, fun j hj => ?_, fun j b hb => ?_⟩
      · rw [g1, List.length_cons]; congr 1; omega
      · rw [g2 j (by omega), pk_un (by omega)]
      · cases j with
        | zero =>
          cases hb
          rw [Nat.add_zero, g2 x (by omega), pk_us, r1]
        | succ j =>
          rw [show x + (j + 1) = x + 1 + j by omega]
          exact g3 j b hb
    | false =>
      obtain ⟨ta2, g1, g2, g3⟩ := ih f (i + 1) x ta hT' (by omega) (by omega)
      rw [List.filter_cons, hk, if_neg (show ¬ (!false) = false by decide), if_neg (show ¬ false = true by decide)]
      exact ⟨ta2, g1, g2, g3⟩
theorem bare_eq (hG : GQ Q) (hR : RS Q sa ka fr n) (ta : Nat → Int32) : ∃ ta2, m_X5_bare sa ka fr n ta = ((bsg Q).length, ta2) ∧ ∀ j s, (bsg Q)[j]? = some s → ta2 j = tau s := by
  obtain ⟨ta2, g1, g2, g3⟩ := bare_run hG hR (exq Q) (n + 1) 0 0 ta (fun t a h => by rw [Nat.zero_add]; exact h) (by rw [hR.1]; omega) (by rw [hR.1]; omega)
  refine ⟨ta2, ?_, fun j s hs => ?_⟩
  · rw [Nat.zero_add] at g1
    unfold bsg bareL
    rw [List.length_map]
    exact g1
  · unfold bsg bareL at hs
    rw [List.getElem?_map] at hs
    cases hq : ((exq Q).filter (keepV Q))[j]? with
    | none => rw [hq] at hs; cases hs
    | some a =>
      rw [hq] at hs
      cases hs
      have := g3 j a hq
      rw [Nat.zero_add] at this
      exact this
end BAR
theorem bsg_vs {Q : List KRun} (hK : ∀ q ∈ Q, KOK q) : ∀ s ∈ bsg Q, VS s := by
  intro s hs
  unfold bsg bareL at hs
  obtain ⟨a, ha, rfl⟩ := List.mem_map.mp hs
  exact (hK a (exq_mem (List.mem_filter.mp ha).1)).1
theorem same85 {r : Nat} {ta tb : Nat → Int32} : ∀ d i f x, r = i + d → d < f → ((m_X5_same_L85 r ta tb f i x).1 = true ↔ (x = true ∧ ∀ j, i ≤ j → j < r → ta j = tb j)) := by
  intro d
  induction d with
  | zero =>
    intro i f x hs hf
    obtain ⟨f, rfl⟩ : ∃ q, f = q + 1 := ⟨f - 1, by omega⟩
    rw [m_X5_same_L85, if_pos (by omega)]
    exact ⟨fun h => ⟨h, fun j h1 h2 => by omega⟩, fun h => h.1⟩
  | succ d ih =>
    intro i f x hs hf
    obtain ⟨f, rfl⟩ : ∃ q, f = q + 1 := ⟨f - 1, by omega⟩
    rw [m_X5_same_L85, if_neg (by omega), ih (i + 1) f _ (by omega) (by omega)]
    unfold m_X5_same_j117_s0
    constructor
    · rintro ⟨h1, h2⟩
      cases x with
      | false => rw [if_pos rfl] at h1; cases h1
      | true =>
        rw [if_neg (by decide)] at h1
        by_cases c : ta i = tb i
        · refine ⟨rfl, fun j h3 h4 => ?_⟩
          by_cases e : j = i
          · subst e; exact c
          · exact h2 j (by omega) h4
        · rw [if_neg c] at h1; cases h1
    · rintro ⟨h1, h2⟩
      subst h1
      refine ⟨by rw [if_neg (by decide), if_pos (h2 i (Nat.le_refl _) (by omega))], fun j h3 h4 => h2 j (by omega) h4⟩
theorem same_ref {P Q : List KRun} {sn kn rw rk mn it : Nat → Int32} {la : Nat} {zs : Nat → Nat} {ix : Nat} (hP : GQ P) (hQ : GQ Q) (h1 : RS P sn kn 0 la) (h2 : RS Q rw rk (10200 * ix) (zs ix)) : (m_X5_same sn kn la rw rk zs ix mn it).1 = true ↔ bsg P = bsg Q := by
  obtain ⟨ta, g1, g2⟩ := bare_eq hP h1 mn
  obtain ⟨tb, f1, f2⟩ := bare_eq hQ h2 it
  unfold m_X5_same
  rw [g1, f1]
  show (if (bsg Q).length = (bsg P).length then _ else _ : Bool × _).1 = true ↔ _
  by_cases c : (bsg Q).length = (bsg P).length
  · rw [if_pos c, same85 (bsg P).length 0 _ true (by omega) (by omega)]
    constructor
    · rintro ⟨-, h⟩
      apply List.ext_getElem?
      intro t
      by_cases ht : t < (bsg P).length
      · have ht2 : t < (bsg Q).length := by omega
        have a := g2 t _ (List.getElem?_eq_getElem ht)
        have b := f2 t _ (List.getElem?_eq_getElem ht2)
        rw [h t (by omega) ht, b] at a
        rw [List.getElem?_eq_getElem ht, List.getElem?_eq_getElem ht2]
        congr 1
        exact ((vs_inj (bsg_vs hQ.kok _ (List.getElem_mem ht2)) (bsg_vs hP.kok _ (List.getElem_mem ht))).mp a).symm
      · rw [List.getElem?_eq_none (by omega), List.getElem?_eq_none (by omega)]
    · intro h
      refine ⟨rfl, fun j _ hj => ?_⟩
      have ht2 : j < (bsg Q).length := by omega
      have a := g2 j _ (List.getElem?_eq_getElem hj)
      have b := f2 j _ (List.getElem?_eq_getElem ht2)
      rw [a, b]
      congr 1
      simp only [h]
  · rw [if_neg c]
    exact ⟨(fun h => nomatch h), fun h => absurd (by rw [h]) c⟩
theorem same_same {P Q : List KRun} {es et fs ft sn kn rw rk mn it : Nat → Int32} {ez fz la : Nat} {zs : Nat → Nat} {ix : Nat} (hP : GQ P) (hQ : GQ Q) (c1 : EF P es et ez) (c2 : EF Q fs ft fz) (h1 : RS P sn kn 0 la) (h2 : RS Q rw rk (10200 * ix) (zs ix)) : m_X4_same es et P.length ez fs ft Q.length fz = (m_X5_same sn kn la rw rk zs ix mn it).1 := by
  have a := same_class hP hQ c1 c2
  have b := same_ref (mn := mn) (it := it) hP hQ h1 h2
  cases h : (m_X5_same sn kn la rw rk zs ix mn it).1 with
  | true => exact a.mpr (b.mp h)
  | false => exact bf.mpr (fun h2 => by rw [b.mpr (a.mp h2)] at h; cases h)
