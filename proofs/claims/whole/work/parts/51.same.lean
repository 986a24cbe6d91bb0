/-! the mathematics, 12: equal effect -/
def dkK (k : Nat) : Bool := isDk k || flk k
def idleQ (Q : List KRun) : Bool := decide (sdg (preP Q) (sufP Q) = 0) || Q.any (fun a => a.2 == 16 || a.2 == 17)
def keepV (Q : List KRun) (q : KRun) : Bool := !(q.2 == 15 && idleQ Q)
def bareL (Q : List KRun) : List KRun := (exq Q).filter (keepV Q)
def bsg (Q : List KRun) : List Int32 := (bareL Q).map (fun q => q.1.1)
theorem p_bits : ∀ k, k < 19 → (((1 : Int32) <<< (nI k &&& 31)) &&& 196608 = 0 ↔ (k == 16 || k == 17) = false) := by decide +kernel
theorem sdg_le : ∀ (S A : List KRun), sdg A S ≤ (exq S).length := by
  intro S
  induction S with
  | nil => intro A; exact Nat.le_refl _
  | cons q S ih =>
    intro A
    show dgs A q q.1.2.1 + sdg (A ++ [q]) S ≤ (List.replicate q.1.2.1 q ++ exq S).length
    rw [List.length_append, List.length_replicate]
    have := dgs_le (A := A) (q := q) q.1.2.1
    have := ih (A ++ [q])
    omega
theorem idle_class {Q : List KRun} {ss ts ps ks ds : Nat → Int32} (hG : GQ Q) (hC : CQ Q ss ts ps ks ds) : m_X1_init_j154_s0 ks ds Q.length = idleQ Q := by
  unfold m_X1_init_j154_s0 idleQ
  have hsz := Nat.le_trans (exq_let Q) hG.size
  have hs := pre_suf Q
  have hle := sdg_le (sufP Q) (preP Q)
  have hx : (exq (sufP Q)).length ≤ (exq Q).length := by
    have : exq Q = exq (preP Q) ++ exq (sufP Q) := by rw [← exq_app, hs]
    rw [this, List.length_append]; omega
  rw [(digits_class hG hC).2]
  have e0 : (nI (sdg (preP Q) (sufP Q)) = 0) ↔ sdg (preP Q) (sufP Q) = 0 := nI_eq (b := 0) (by omega) (by omega)
  have hp := present_eq (m := 196608) (p := fun k => k == 16 || k == 17) p_bits (fun t a h => (hC t a h).2.2.2.1) hG.kok
  by_cases c : sdg (preP Q) (sufP Q) = 0
  · rw [if_pos (e0.mpr c), decide_eq_true c]; rfl
  · rw [if_neg (fun h => c (e0.mp h)), decide_eq_false c, Bool.false_or]
    by_cases d : Q.any (fun a => a.2 == 16 || a.2 == 17) = true
    · rw [if_neg (fun h => by rw [hp.mp h] at d; cases d), d]
    · rw [if_pos (hp.mpr (bf.mpr d)), bf.mpr d]
/-- a run-length text, its last run first -/
abbrev RLE : Type := List (Int32 × Nat)
def flat : RLE → List Int32
  | [] => []
  | e :: E => List.replicate e.2 e.1 ++ flat E
def Can : RLE → Prop
  | [] => True
  | e :: E => 1 ≤ e.2 ∧ (∀ x, E.head? = some x → x.1 ≠ e.1) ∧ Can E
def addR (E : RLE) (s : Int32) (n : Nat) : RLE := match E with
  | [] => [(s, n)]
  | e :: E' => if e.1 = s then (s, e.2 + n) :: E' else (s, n) :: e :: E'
theorem addR_eq {e : Int32 × Nat} {E : RLE} {s : Int32} {n : Nat} (c : e.1 = s) : addR (e :: E) s n = (s, e.2 + n) :: E := by
  show (if e.1 = s then (s, e.2 + n) :: E else (s, n) :: e :: E) = _
  rw [if_pos c]
theorem addR_ne {e : Int32 × Nat} {E : RLE} {s : Int32} {n : Nat} (c : ¬ e.1 = s) : addR (e :: E) s n = (s, n) :: e :: E := by
  show (if e.1 = s then (s, e.2 + n) :: E else (s, n) :: e :: E) = _
  rw [if_neg c]
theorem flat_add (E : RLE) (s : Int32) (n : Nat) : flat (addR E s n) = List.replicate n s ++ flat E := by
  cases E with
  | nil => rfl
  | cons e E =>
    by_cases c : e.1 = s
    · rw [addR_eq c]
      show List.replicate (e.2 + n) s ++ flat E = List.replicate n s ++ (List.replicate e.2 e.1 ++ flat E)
      rw [c, ← List.append_assoc, List.replicate_append_replicate, Nat.add_comm]
    · rw [addR_ne c]; rfl
theorem can_add {E : RLE} {s : Int32} {n : Nat} (h : Can E) (hn : 1 ≤ n) : Can (addR E s n) := by
  cases E with
  | nil => exact ⟨hn, (fun x hx => nomatch hx), trivial⟩
  | cons e E =>
    by_cases c : e.1 = s
    · rw [addR_eq c]
      exact ⟨by show 1 ≤ e.2 + n; omega, fun x hx => by rw [← c]; exact h.2.1 x hx, h.2.2⟩
    · rw [addR_ne c]
      exact ⟨hn, fun x hx => by cases hx; exact c, h⟩
theorem flat_head {E : RLE} (h : Can E) (hne : E ≠ []) : ∃ e, E.head? = some e ∧ (flat E).head? = some e.1 := by
  cases E with
  | nil => exact absurd rfl hne
  | cons e E =>
    refine ⟨e, rfl, ?_⟩
    show (List.replicate e.2 e.1 ++ flat E).head? = _
    obtain ⟨m, hm⟩ : ∃ m, e.2 = m + 1 := ⟨e.2 - 1, by have := h.1; omega⟩
    rw [hm, List.replicate_succ]; rfl
theorem can_uniq : ∀ E F : RLE, Can E → Can F → flat E = flat F → E = F := by
  intro E
  induction E with
  | nil =>
    intro F _ hF h
    cases F with
    | nil => rfl
    | cons f F =>
      obtain ⟨e, -, h2⟩ := flat_head hF (by simp)
      rw [← h] at h2; cases h2
  | cons e E ih =>
    intro F hE hF h
    cases F with
    | nil =>
      obtain ⟨x, -, h2⟩ := flat_head hE (by simp)
      rw [h] at h2; cases h2
    | cons f F =>
      have hs : e.1 = f.1 := by
        obtain ⟨x, hx, h2⟩ := flat_head hE (by simp)
        obtain ⟨y, hy, h3⟩ := flat_head hF (by simp)
        cases hx; cases hy
        rw [h, h3] at h2
        exact (Option.some.inj h2).symm
      have key : ∀ (a b : Nat) (G H : RLE) (s : Int32), Can G → (∀ x, G.head? = some x → x.1 ≠ s) → List.replicate a s ++ flat G = List.replicate b s ++ flat H → ¬ a < b := by
        intro a b G H s hG hh he hab
        rw [show b = a + (b - a) by omega, ← List.replicate_append_replicate, List.append_assoc] at he
        have he2 := List.append_cancel_left he
        obtain ⟨m, hm⟩ : ∃ m, b - a = m + 1 := ⟨b - a - 1, by omega⟩
        rw [hm, List.replicate_succ] at he2
        cases G with
        | nil => cases he2
        | cons g G =>
          obtain ⟨x, hx, h2⟩ := flat_head hG (by simp)
          rw [he2] at h2
          have : s = x.1 := Option.some.inj h2
          exact hh x hx this.symm
      have h' : List.replicate e.2 e.1 ++ flat E = List.replicate f.2 f.1 ++ flat F := h
      rw [hs] at h'
      have n1 := key e.2 f.2 E F f.1 hE.2.2 (by rw [← hs]; exact hE.2.1) h'
      have n2 := key f.2 e.2 F E f.1 hF.2.2 hF.2.1 h'.symm
      have hn : e.2 = f.2 := by omega
      rw [hn] at h'
      have := ih F hE.2.2 hF.2.2 (List.append_cancel_left h')
      rw [this]
      congr 1
      exact Prod.ext hs hn
/-- the class's cells of an effect -/
def RepE (E : RLE) (es et : Nat → Int32) (en : Nat) : Prop := en = E.length ∧ ∀ t e, E.reverse[t]? = some e → es t = e.1 ∧ et t = nI e.2
theorem rep_add {E : RLE} {es et : Nat → Int32} {en n : Nat} (h : RepE E es et en) (hn : en < n) (hn2 : n ≤ 80) (s : Int32) (m : Nat) : ∃ es2 et2 en2, m_X0_add es et n en s (nI m) = (es2, et2, en2) ∧ RepE (addR E s m) es2 et2 en2 ∧ en2 ≤ en + 1 := by
  obtain ⟨h1, h2⟩ := h
  have push : RepE ((s, m) :: E) (upd es en s) (upd et en (nI m)) (en + 1) := by
    refine ⟨by rw [List.length_cons, h1], fun t e he => ?_⟩
    rw [List.reverse_cons] at he
    by_cases c : t = en
    · subst c
      rw [List.getElem?_append_right (by rw [List.length_reverse]; omega), List.length_reverse, h1, Nat.sub_self] at he
      cases he; exact ⟨pk_us, pk_us⟩
    · have ht : t < E.reverse.length := by
        have := (List.getElem?_eq_some_iff.mp he).1
        rw [List.length_append, List.length_reverse] at this
        rw [List.length_reverse]
        simp at this
        omega
      rw [List.getElem?_append_left ht] at he
      rw [pk_un c, pk_un c]
      exact h2 t e he
  unfold m_X0_add
  cases E with
  | nil =>
    have h0 : en = 0 := h1
    subst h0
    rw [if_pos (show nI 0 - 1 < 0 by decide), if_neg (by omega)]
    exact ⟨_, _, _, rfl, push, by omega⟩
  | cons e E =>
    rw [List.length_cons] at h1
    rw [show nI en - 1 = nI (en - 1) from pk_sub (b := 1) (by omega), if_neg (nI_pos (by omega)), if_neg (nI_ge (by omega) (by omega)), nI_clamp (by omega)]
    have hlast : (e :: E).reverse[en - 1]? = some e := by
      rw [List.reverse_cons, List.getElem?_append_right (by rw [List.length_reverse]; omega), List.length_reverse, show en - 1 - E.length = 0 by omega]; rfl
    obtain ⟨l1, l2⟩ := h2 (en - 1) e hlast
    rw [l1, l2, nI_add]
    by_cases c : e.1 = s
    · rw [if_pos c]
      refine ⟨_, _, _, rfl, ?_, by omega⟩
      rw [addR_eq c]
      refine ⟨by rw [List.length_cons]; exact h1, fun t x hx => ?_⟩
      rw [List.reverse_cons] at hx
      by_cases ct : t = en - 1
      · subst ct
        rw [List.getElem?_append_right (by rw [List.length_reverse]; omega), List.length_reverse, show en - 1 - E.length = 0 by omega] at hx
        cases hx
        exact ⟨by rw [l1, c], pk_us⟩
      · have ht : t < E.reverse.length := by
          have := (List.getElem?_eq_some_iff.mp hx).1
          rw [List.length_append, List.length_reverse] at this
          rw [List.length_reverse]
          simp at this
          omega
        rw [List.getElem?_append_left ht] at hx
        rw [pk_un ct]
        refine h2 t x ?_
        rw [List.reverse_cons, List.getElem?_append_left ht]; exact hx
    · rw [if_neg c, if_neg (by omega)]
      refine ⟨_, _, _, rfl, ?_, by omega⟩
      rw [addR_ne c]
      exact push
theorem rep_len {E : RLE} {es et : Nat → Int32} {en : Nat} (h : RepE E es et en) : en = E.length := h.1
theorem cpo_lt {f : Nat → Int32} {n i : Nat} (h : i < n) : cpo f n i = f i := by
  unfold cpo
  split
  · rfl
  · rw [pk_cpy_in (by omega) (by omega)]; congr 1; omega
theorem v_kind {q : KRun} (h : KOK q) : (q.1.1 == 86) = (q.2 == 15) := (kok_of h (P := fun s k => ((s == 44) = (k == 1)) ∧ ((s == 46) = (k == 2)) ∧ ((s == 80) = (k == 16 || k == 17)) ∧ ((s == 86) = (k == 15))) sg_kind).2.2.2
theorem eff_run {Q : List KRun} {ss ts ps ks ds : Nat → Int32} (hG : GQ Q) (hC : CQ Q ss ts ps ks ds) : ∀ (S A : List KRun) f es et en E, Q = A ++ S → RepE E es et en → Can E → en ≤ A.length → S.length < f → ∃ es2 et2 en2 E2, m_X1_init_L171 ss ts ks ds Q.length f A.length es et en = (es2, et2, en2) ∧ RepE E2 es2 et2 en2 ∧ Can E2 ∧ en2 ≤ Q.length ∧ flat E2 = (((exq S).filter (keepV Q)).map (fun q => q.1.1)).reverse ++ flat E := by
  intro S
  induction S with
  | nil =>
    intro A f es et en E hQ hR hc he hf
    obtain ⟨f, rfl⟩ : ∃ q, f = q + 1 := ⟨f - 1, by omega⟩
    have hl : Q.length = A.length := by rw [hQ, List.append_nil]
    rw [m_X1_init_L171, if_pos (by omega)]
    exact ⟨es, et, en, E, rfl, hR, hc, by omega, rfl⟩
  | cons q S ih =>
    intro A f es et en E hQ hR hc he hf
    obtain ⟨f, rfl⟩ : ∃ q, f = q + 1 := ⟨f - 1, by omega⟩
    rw [List.length_cons] at hf
    have hl : Q.length = A.length + (S.length + 1) := by rw [hQ, List.length_append, List.length_cons]
    have h80 := hG.len
    have hq : Q[A.length]? = some q := by rw [hQ, List.getElem?_append_right (Nat.le_refl _), Nat.sub_self]; rfl
    obtain ⟨c1, c2, -⟩ := hC _ q hq
    have hkq := hG.kok q (List.mem_of_getElem? hq)
    obtain ⟨-, n1, n2, -⟩ := id hkq
    have hv := v_kind hkq
    have hfe : (((exq (q :: S)).filter (keepV Q)).map (fun q => q.1.1)).reverse = (((exq S).filter (keepV Q)).map (fun q => q.1.1)).reverse ++ (if keepV Q q = true then List.replicate q.1.2.1 q.1.1 else []) := by
      show (((List.replicate q.1.2.1 q ++ exq S).filter (keepV Q)).map (fun q => q.1.1)).reverse = _
      rw [List.filter_append, List.map_append, List.reverse_append, List.filter_replicate]
      split
      · rw [List.map_replicate, List.reverse_replicate]
      · rfl
    rw [m_X1_init_L171, if_neg (by omega), cpo_lt (by omega), cpo_lt (by omega), c1, c2, idle_class hG hC, hfe]
    have hnext : Q = (A ++ [q]) ++ S := by rw [hQ, List.append_assoc]; rfl
    have hla : (A ++ [q]).length = A.length + 1 := by rw [List.length_append]; rfl
    have hadd : keepV Q q = true → ∃ es2 et2 en2 E2, (match m_X0_add es et Q.length en q.1.1 (nI q.1.2.1) with | (ss_z, ts_z, sz_z) => m_X1_init_L171 ss ts ks ds Q.length f (A.length + 1) ss_z ts_z sz_z) = (es2, et2, en2) ∧ RepE E2 es2 et2 en2 ∧ Can E2 ∧ en2 ≤ Q.length ∧ flat E2 = ((((exq S).filter (keepV Q)).map (fun q => q.1.1)).reverse ++ (if keepV Q q = true then List.replicate q.1.2.1 q.1.1 else [])) ++ flat E := fun hk => by
      obtain ⟨es1, et1, en1, g1, g2, g3⟩ := rep_add hR (n := Q.length) (by omega) h80 q.1.1 q.1.2.1
      rw [g1, ← hla]
      obtain ⟨es2, et2, en2, E2, f1, f2, f3, f4, f5⟩ := ih (A ++ [q]) f es1 et1 en1 (addR E q.1.1 q.1.2.1) hnext g2 (can_add hc n1) (by omega) (by omega)
      refine ⟨es2, et2, en2, E2, f1, f2, f3, f4, ?_⟩
      rw [f5, flat_add, if_pos hk, List.append_assoc]
    by_cases s86 : q.1.1 = 86
    · rw [if_pos s86]
      have hk15 : (q.2 == 15) = true := by rw [← hv]; exact beq_iff_eq.mpr s86
      by_cases hid : idleQ Q = true
      · rw [if_neg (by rw [hid]; decide)]
        have hk : ¬ keepV Q q = true := by unfold keepV; rw [hk15, hid]; decide
        rw [← hla]
        obtain ⟨es2, et2, en2, E2, f1, f2, f3, f4, f5⟩ := ih (A ++ [q]) f es et en E hnext hR hc (by omega) (by omega)
        refine ⟨es2, et2, en2, E2, f1, f2, f3, f4, ?_⟩
        rw [f5, if_neg hk, List.append_nil]
      · rw [if_pos (bf.mpr hid)]
        exact hadd (by unfold keepV; rw [bf.mpr hid, Bool.and_false]; rfl)
    · rw [if_neg s86]
      exact hadd (by unfold keepV; rw [← hv, beq_eq_false_iff_ne.mpr s86]; rfl)
/-- the class's effect of a good picture -/
def EF (Q : List KRun) (es et : Nat → Int32) (en : Nat) : Prop := ∃ E, RepE E es et en ∧ Can E ∧ en ≤ Q.length ∧ flat E = (bsg Q).reverse
theorem eff_class {Q : List KRun} {ss ts ps ks ds : Nat → Int32} (hG : GQ Q) (hC : CQ Q ss ts ps ks ds) : EF Q (m_X1_init ss ts ks ds Q.length).1 (m_X1_init ss ts ks ds Q.length).2.1 (m_X1_init ss ts ks ds Q.length).2.2 := by
  obtain ⟨es2, et2, en2, E2, f1, f2, f3, f4, f5⟩ := eff_run hG hC Q [] (Q.length + 1) (fun _ => 0) (fun _ => 0) 0 [] rfl ⟨rfl, fun t e h => by cases h⟩ trivial (Nat.le_refl _) (by omega)
  have : m_X1_init ss ts ks ds Q.length = (es2, et2, en2) := f1
  rw [this]
  exact ⟨E2, f2, f3, f4, by rw [f5]; exact List.append_nil _⟩
theorem flat_le : ∀ (E : RLE), ∀ e ∈ E, e.2 ≤ (flat E).length := by
  intro E
  induction E with
  | nil => intro e h; cases h
  | cons x E ih =>
    intro e h
    show _ ≤ (List.replicate x.2 x.1 ++ flat E).length
    rw [List.length_append, List.length_replicate]
    rcases List.mem_cons.mp h with q | q
    · subst q; omega
    · have := ih e q; omega
theorem equal_run {es et fs ft : Nat → Int32} {n o sz : Nat} (hn : sz ≤ n) (ho : sz ≤ o) : ∀ d i f, sz = i + d → d < f → (m_X0_equalTo_L19 es et n sz fs ft o f i = true ↔ ∀ j, i ≤ j → j < sz → es j = fs j ∧ et j = ft j) := by
  intro d
  induction d with
  | zero =>
    intro i f hs hf
    obtain ⟨f, rfl⟩ : ∃ q, f = q + 1 := ⟨f - 1, by omega⟩
    rw [m_X0_equalTo_L19, if_pos (by omega)]
    exact ⟨fun _ j h1 h2 => by omega, fun _ => rfl⟩
  | succ d ih =>
    intro i f hs hf
    obtain ⟨f, rfl⟩ : ∃ q, f = q + 1 := ⟨f - 1, by omega⟩
    rw [m_X0_equalTo_L19, if_neg (by omega)]
    unfold m_X0_signOf m_X0_timesOf
    rw [if_neg (show ¬ n ≤ i by omega), if_neg (show ¬ o ≤ i by omega), if_neg (show ¬ n ≤ i by omega), if_neg (show ¬ o ≤ i by omega)]
    by_cases c1 : es i = fs i
    · rw [if_pos c1]
      by_cases c2 : et i = ft i
      · rw [if_pos c2, ih (i + 1) f (by omega) (by omega)]
        constructor
        · intro h j h1 h2
          by_cases c : j = i
          · subst c; exact ⟨c1, c2⟩
          · exact h j (by omega) h2
        · intro h j h1 h2; exact h j (by omega) h2
      · rw [if_neg c2]
        exact ⟨(fun h => nomatch h), fun h => absurd (h i (Nat.le_refl _) (by omega)).2 c2⟩
    · rw [if_neg c1]
      exact ⟨(fun h => nomatch h), fun h => absurd (h i (Nat.le_refl _) (by omega)).1 c1⟩
theorem same_class {P Q : List KRun} {es et fs ft : Nat → Int32} {ez fz : Nat} (hP : GQ P) (hQ : GQ Q) (h1 : EF P es et ez) (h2 : EF Q fs ft fz) : m_X4_same es et P.length ez fs ft Q.length fz = true ↔ bsg P = bsg Q := by
  obtain ⟨E, r1, c1, l1, f1⟩ := h1
  obtain ⟨F, r2, c2, l2, f2⟩ := h2
  have big : ∀ {R : List KRun} {G : RLE}, GQ R → flat G = (bsg R).reverse → ∀ e ∈ G, e.2 < 2 ^ 31 := fun {R G} hR hf e he => by
    have a := flat_le G e he
    rw [hf, List.length_reverse] at a
    have b : (bsg R).length ≤ (exq R).length := by unfold bsg bareL; rw [List.length_map]; exact List.length_filter_le ..
    have := Nat.le_trans (exq_let R) hR.size
    omega
  have hEF : E = F ↔ bsg P = bsg Q := by
    constructor
    · intro h; rw [h, f2] at f1; exact (List.reverse_inj.mp f1).symm
    · intro h; exact can_uniq E F c1 c2 (by rw [f1, f2, h])
  rw [← hEF]
  unfold m_X4_same m_X0_equalTo
  have hb : ∀ b : Bool, (if b = false then false else true) = b := fun b => by cases b <;> rfl
  rw [hb]
  by_cases c : fz = ez
  · rw [if_pos c, equal_run l1 (by omega) ez 0 (ez + 1) (by omega) (by omega)]
    subst c
    constructor
    · intro h
      have : E.reverse = F.reverse := by
        apply List.ext_getElem?
        intro t
        by_cases ht : t < fz
        · have e1 : t < E.reverse.length := by rw [List.length_reverse, ← r1.1]; exact ht
          have e2 : t < F.reverse.length := by rw [List.length_reverse, ← r2.1]; exact ht
          obtain ⟨a1, a2⟩ := r1.2 t _ (List.getElem?_eq_getElem e1)
          obtain ⟨b1, b2⟩ := r2.2 t _ (List.getElem?_eq_getElem e2)
          obtain ⟨g1, g2⟩ := h t (by omega) ht
          rw [List.getElem?_eq_getElem e1, List.getElem?_eq_getElem e2]
          have m1 := big hP f1 _ (List.mem_reverse.mp (List.getElem_mem e1))
          have m2 := big hQ f2 _ (List.mem_reverse.mp (List.getElem_mem e2))
          congr 1
          refine Prod.ext ?_ ?_
          · rw [← a1, ← b1, g1]
          · exact (nI_eq m1 m2).mp (by rw [← a2, ← b2, g2])
        · rw [List.getElem?_eq_none (by rw [List.length_reverse, ← r1.1]; omega), List.getElem?_eq_none (by rw [List.length_reverse, ← r2.1]; omega)]
      exact List.reverse_inj.mp this
    · intro h j _ hj
      subst h
      have e1 : j < E.reverse.length := by rw [List.length_reverse, ← r1.1]; exact hj
      obtain ⟨a1, a2⟩ := r1.2 j _ (List.getElem?_eq_getElem e1)
      obtain ⟨b1, b2⟩ := r2.2 j _ (List.getElem?_eq_getElem e1)
      exact ⟨a1.trans b1.symm, a2.trans b2.symm⟩
  · rw [if_neg c]
    exact ⟨(fun h => nomatch h), fun h => absurd (by rw [r1.1, r2.1, h]) c⟩
