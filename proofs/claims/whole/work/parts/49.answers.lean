/-! the mathematics, 10: category, digits, scale -/
theorem holds_or (a b k : Int32) : m_X4_holds (a ||| b) k = (m_X4_holds a k || m_X4_holds b k) := by
  unfold m_X4_holds
  rw [Int32.shiftRight_or, i32_dist]
  rcases bit01 (a >>> (k &&& 31)) with h1 | h1 <;> rcases bit01 (b >>> (k &&& 31)) with h2 | h2 <;> rw [h1, h2] <;> decide
theorem holds_one : ∀ a, a < 19 → ∀ b, b < 19 → m_X4_holds ((1 : Int32) <<< (nI a &&& 31)) (nI b) = (a == b) := by decide +kernel
theorem holds_run {ks : Nat → Int32} {sz : Nat} {b : Nat} (hb : b < 19) : ∀ (T : List KRun) f i x, (∀ t a, T[t]? = some a → ks (i + t) = nI a.2) → (∀ a ∈ T, a.2 < 19) → sz = i + T.length → T.length < f → m_X4_holds (m_X2_kindsPresent_L4 ks sz f i x) (nI b) = (m_X4_holds x (nI b) || T.any (fun a => a.2 == b)) := by
  intro T
  induction T with
  | nil =>
    intro f i x _ _ hm hf
    obtain ⟨f, rfl⟩ : ∃ q, f = q + 1 := ⟨f - 1, by omega⟩
    rw [m_X2_kindsPresent_L4, if_pos (by rw [hm]; simp)]
    show _ = (_ || false); rw [Bool.or_false]
  | cons a T ih =>
    intro f i x hT hK hm hf
    obtain ⟨f, rfl⟩ : ∃ q, f = q + 1 := ⟨f - 1, by omega⟩
    rw [List.length_cons] at hm hf
    have a1 := hT 0 a rfl
    rw [Nat.add_zero] at a1
    rw [m_X2_kindsPresent_L4, if_neg (by omega), ih f (i + 1) _ (fun t r' hr => by rw [show i + 1 + t = i + (t + 1) by omega]; exact hT (t + 1) r' hr) (fun x hx => hK x (List.mem_cons_of_mem _ hx)) (by omega) (by omega), a1, holds_or, holds_one a.2 (hK a (List.mem_cons_self ..)) b hb]
    show _ = (_ || (a.2 == b || T.any (fun a => a.2 == b)))
    rw [Bool.or_assoc]
theorem holds_pres {ks : Nat → Int32} {Q : List KRun} (hk : ∀ t a, Q[t]? = some a → ks t = nI a.2) (hK : ∀ q ∈ Q, KOK q) {b : Nat} (hb : b < 19) : m_X4_holds (m_X2_kindsPresent ks Q.length) (nI b) = Q.any (fun a => a.2 == b) := by
  have := holds_run (ks := ks) (sz := Q.length) hb Q (Q.length + 1) 0 0 (fun t a h => by rw [Nat.zero_add]; exact hk t a h) (fun a ha => kok_lt (hK a ha)) (by omega) (by omega)
  have z : m_X4_holds 0 (nI b) = false := by
    unfold m_X4_holds; rw [Int32.zero_shiftRight]; rfl
  rw [z, Bool.false_or] at this
  exact this
def numK (k : Nat) : Bool := k == 12 || k == 14 || k == 15 || k == 16 || k == 17
theorem num_bits : ∀ k, k < 19 → (((1 : Int32) <<< (nI k &&& 31)) &&& (-249857) = 0 ↔ (!numK k) = false) := by decide +kernel
theorem k13_tab : ∀ k, k < 19 → (al k 13 = true ∨ al 13 k = true) → k = 0 ∨ k = 12 ∨ k = 13 := by decide +kernel
theorem k13_sg : ∀ k ∈ vsL, ∀ m b p f : Bool, (kd (nI k) m b p f = 12 → nI k = 57) ∧ (kd (nI k) m b p f = 13 → nI k = 65 ∨ nI k = 88) := by decide +kernel
/-- what category a good picture has -/
def catQ (Q : List KRun) : Int32 := if Q.any (fun a => a.2 == 18) = true then (if Q.any (fun a => a.2 == 0) = true then 6 else 5) else (if Q.any (fun a => a.2 == 13) = true then (if Q.any (fun a => a.2 == 0) = true then 2 else (if Q.all (fun a => a.1.1 == 65) = true then 0 else 1)) else (if Q.all (fun a => numK a.2) = true then 3 else 4))
theorem bf {b : Bool} : b = false ↔ ¬ b = true := by cases b <;> simp
theorem cat_class {Q : List KRun} {ss ks : Nat → Int32} (hG : GQ Q) (hs : ∀ t a, Q[t]? = some a → ss t = a.1.1) (hk : ∀ t a, Q[t]? = some a → ks t = nI a.2) : m_X2_categoryOf ss Q.length (m_X2_kindsPresent ks Q.length) = catQ Q := by
  have hK := hG.kok
  have h18 : m_X4_holds (m_X2_kindsPresent ks Q.length) 18 = Q.any (fun a => a.2 == 18) := holds_pres hk hK (b := 18) (by omega)
  have h13 : m_X4_holds (m_X2_kindsPresent ks Q.length) 13 = Q.any (fun a => a.2 == 13) := holds_pres hk hK (b := 13) (by omega)
  have h0 : m_X4_holds (m_X2_kindsPresent ks Q.length) 0 = Q.any (fun a => a.2 == 0) := holds_pres hk hK (b := 0) (by omega)
  have hn := present_eq (m := -249857) (p := fun k => !numK k) num_bits hk hK
  have hnum : (m_X2_kindsPresent ks Q.length &&& (-249857) = 0) ↔ Q.all (fun a => numK a.2) = true := by
    rw [hn]
    constructor
    · intro h; refine List.all_eq_true.mpr (fun a ha => ?_)
      have := List.any_eq_false.mp h a ha
      cases hh : numK a.2 with
      | true => rfl
      | false => rw [hh] at this; exact absurd rfl this
    · intro h; refine List.any_eq_false.mpr (fun a ha => ?_)
      rw [List.all_eq_true.mp h a ha]; decide
  unfold m_X2_categoryOf catQ
  rw [h18, h13, h0, stands_eq hs, stands_eq hs]
  by_cases c18 : Q.any (fun a => a.2 == 18) = true
  · rw [if_pos c18, if_neg (by rw [c18]; decide)]
    by_cases c0 : Q.any (fun a => a.2 == 0) = true
    · rw [if_pos c0, if_neg (by rw [c0]; decide)]
    · rw [if_neg c0, if_pos (bf.mpr c0)]
  · rw [if_neg c18, if_pos (bf.mpr c18)]
    by_cases c13 : Q.any (fun a => a.2 == 13) = true
    · rw [if_pos c13, if_neg (by rw [c13]; decide)]
      by_cases c0 : Q.any (fun a => a.2 == 0) = true
      · rw [if_pos c0, if_neg (by rw [c0]; decide)]
      · rw [if_neg c0, if_pos (bf.mpr c0)]
        obtain ⟨x, hx, ex⟩ := List.any_eq_true.mp c13
        have ex := beq_iff_eq.mp ex
        have hall : ∀ a ∈ Q, a.1.1 = 57 ∨ a.1.1 = 65 ∨ a.1.1 = 88 := fun a ha => by
          obtain ⟨g1, g2⟩ := kok_of (hK a ha) (P := fun s k => (k = 12 → s = 57) ∧ (k = 13 → s = 65 ∨ s = 88)) k13_sg
          by_cases e : a.2 = 13
          · exact Or.inr (g2 e)
          · have := hG.two_kinds ha hx (by rw [ex]; exact e)
            rw [ex] at this
            rcases k13_tab a.2 (kok_lt (hK a ha)) this with e' | e' | e'
            · exact absurd (show Q.any (fun a => a.2 == 0) = true from List.any_eq_true.mpr ⟨a, ha, beq_iff_eq.mpr e'⟩) c0
            · exact Or.inl (g1 e')
            · exact absurd e' e
        by_cases c65 : Q.all (fun a => a.1.1 == 65) = true
        · have h88 : ∀ s : Int32, s ≠ 65 → hasS s Q = false := fun s hs => List.any_eq_false.mpr (fun a ha h => hs ((beq_iff_eq.mp h).symm.trans (beq_iff_eq.mp (List.all_eq_true.mp c65 a ha))))
          rw [if_pos c65, h88 88 (by decide), h88 57 (by decide), if_pos rfl, if_pos rfl]
        · rw [if_neg c65]
          by_cases e88 : hasS 88 Q = true
          · rw [if_neg (by rw [e88]; decide)]
          · rw [if_pos (bf.mpr e88), if_neg]
            intro e57
            refine c65 (List.all_eq_true.mpr (fun a ha => beq_iff_eq.mpr ?_))
            rcases hall a ha with e | e | e
            · exact absurd (show hasS 57 Q = true from List.any_eq_true.mpr ⟨a, ha, beq_iff_eq.mpr e⟩) (bf.mp e57)
            · exact e
            · exact absurd (show hasS 88 Q = true from List.any_eq_true.mpr ⟨a, ha, beq_iff_eq.mpr e⟩) e88
    · rw [if_neg c13, if_pos (bf.mpr c13)]
      by_cases cn : Q.all (fun a => numK a.2) = true
      · rw [if_pos cn, if_pos (hnum.mpr cn)]
      · rw [if_neg cn, if_neg (fun h => cn (hnum.mp h))]
theorem nz {n : Nat} (h : n < 2 ^ 31) : nI n ≤ 0 ↔ ¬ 0 < n := by
  constructor
  · intro a b; exact nI_nle b h a
  · intro a; rw [show n = 0 by omega]; decide
theorem cat_ref {Q : List KRun} {sn kn : Nat → Int32} {la : Nat} (hG : GQ Q) (hR : RS Q sn kn 0 la) : m_X5_sort sn kn la = catQ Q := by
  have hK := hG.kok
  have hsz := Nat.le_trans (exq_let Q) hG.size
  have hc := fun p => cnt_len p Q
  have k18 : m_X5_ofKind kn la 18 = nI (cnt (fun a => a.2 == 18) Q) := ofKind_eq (k := 18) hR hK (by omega)
  have k13 : m_X5_ofKind kn la 13 = nI (cnt (fun a => a.2 == 13) Q) := ofKind_eq (k := 13) hR hK (by omega)
  have k0 : m_X5_ofKind kn la 0 = nI (cnt (fun a => a.2 == 0) Q) := ofKind_eq (k := 0) hR hK (by omega)
  have k12 : m_X5_ofKind kn la 12 = nI (cnt (fun a => a.2 == 12) Q) := ofKind_eq (k := 12) hR hK (by omega)
  have k14 : m_X5_ofKind kn la 14 = nI (cnt (fun a => a.2 == 14) Q) := ofKind_eq (k := 14) hR hK (by omega)
  have k15 : m_X5_ofKind kn la 15 = nI (cnt (fun a => a.2 == 15) Q) := ofKind_eq (k := 15) hR hK (by omega)
  have k16 : m_X5_ofKind kn la 16 = nI (cnt (fun a => a.2 == 16) Q) := ofKind_eq (k := 16) hR hK (by omega)
  have k17 : m_X5_ofKind kn la 17 = nI (cnt (fun a => a.2 == 17) Q) := ofKind_eq (k := 17) hR hK (by omega)
  have s65 : m_X5_ofSign sn la 65 = nI (cnt (fun a => a.1.1 == 65) Q) := ofSign_eq (s := 65) hR hK ⟨65, by decide, rfl⟩
  have ne : ∀ (q : KRun) (i j : Nat), i ≠ j → ¬ ((q.2 == i) = true ∧ (q.2 == j) = true) := fun q i j h ⟨a, b⟩ => h ((beq_iff_eq.mp a).symm.trans (beq_iff_eq.mp b))
  have sum : cnt (fun a => a.2 == 12) Q + cnt (fun a => a.2 == 14) Q + cnt (fun a => a.2 == 15) Q + cnt (fun a => a.2 == 16) Q + cnt (fun a => a.2 == 17) Q = cnt (fun a => numK a.2) Q := by
    rw [cnt_or (fun q => ne q 12 14 (by decide)), cnt_or (fun q ⟨a, b⟩ => by
      rcases Bool.or_eq_true_iff.mp a with a | a
      · exact ne q 12 15 (by decide) ⟨a, b⟩
      · exact ne q 14 15 (by decide) ⟨a, b⟩), cnt_or (fun q ⟨a, b⟩ => by
      rcases Bool.or_eq_true_iff.mp a with a | a
      · rcases Bool.or_eq_true_iff.mp a with a | a
        · exact ne q 12 16 (by decide) ⟨a, b⟩
        · exact ne q 14 16 (by decide) ⟨a, b⟩
      · exact ne q 15 16 (by decide) ⟨a, b⟩), cnt_or (fun q ⟨a, b⟩ => by
      rcases Bool.or_eq_true_iff.mp a with a | a
      · rcases Bool.or_eq_true_iff.mp a with a | a
        · rcases Bool.or_eq_true_iff.mp a with a | a
          · exact ne q 12 17 (by decide) ⟨a, b⟩
          · exact ne q 14 17 (by decide) ⟨a, b⟩
        · exact ne q 15 17 (by decide) ⟨a, b⟩
      · exact ne q 16 17 (by decide) ⟨a, b⟩)]
    rfl
  have hp : ∀ p : KRun → Bool, (nI (cnt p Q) ≤ 0) ↔ ¬ Q.any p = true := fun p => by
    rw [nz (by have := hc p; omega), cnt_pos hK]
  have ha : ∀ p : KRun → Bool, (nI (cnt p Q) = nI la) ↔ Q.all p = true := fun p => by
    rw [nI_eq (by have := hc p; omega) (by rw [hR.1]; omega), hR.1, cnt_all hK]
  unfold m_X5_sort catQ
  rw [k18, k13, k0, k12, k14, k15, k16, k17, s65, nI_add, nI_add, nI_add, nI_add, sum]
  simp only [hp, ha]
  by_cases c18 : Q.any (fun a => a.2 == 18) = true
  · rw [if_pos c18, if_neg (fun h => h c18)]
    by_cases c0 : Q.any (fun a => a.2 == 0) = true
    · rw [if_pos c0, if_neg (fun h => h c0)]
    · rw [if_neg c0, if_pos c0]
  · rw [if_neg c18, if_pos c18]
    by_cases c13 : Q.any (fun a => a.2 == 13) = true
    · rw [if_pos c13, if_neg (fun h => h c13)]
      by_cases c0 : Q.any (fun a => a.2 == 0) = true
      · rw [if_pos c0, if_neg (fun h => h c0)]
      · rw [if_neg c0, if_pos c0]
    · rw [if_neg c13, if_pos c13]
/-! digits -/
def sdg : List KRun → List KRun → Nat
  | _, [] => 0
  | A, q :: S => dgs A q q.1.2.1 + sdg (A ++ [q]) S
def ptK (k : Nat) : Bool := k == 2 || k == 15 || k == 16
/-- the runs ahead of the point, and from it on -/
def preP (Q : List KRun) : List KRun := Q.takeWhile (fun a => !ptK a.2)
def sufP (Q : List KRun) : List KRun := Q.dropWhile (fun a => !ptK a.2)
theorem pre_suf (Q : List KRun) : preP Q ++ sufP Q = Q := List.takeWhile_append_dropWhile
theorem pre_no {Q : List KRun} : ∀ a ∈ preP Q, ptK a.2 = false := by
  intro a ha
  unfold preP at ha
  have h := List.all_eq_true.mp (List.all_takeWhile (p := fun a : KRun => !ptK a.2) (l := Q)) a ha
  cases hh : ptK a.2 with
  | false => rfl
  | true => rw [hh] at h; cases h
theorem suf_hd {Q : List KRun} {q : KRun} {B : List KRun} (h : sufP Q = q :: B) : ptK q.2 = true := by
  have := List.head?_dropWhile_not (fun a : KRun => !ptK a.2) Q
  unfold sufP at h
  rw [h] at this
  simp at this
  exact this
theorem pt_tab : ∀ k, k < 19 → m_X4_holds 98308 (nI k) = ptK k := by decide +kernel
theorem pointRun_skip {ks : Nat → Int32} {sz : Nat} : ∀ (T : List KRun) f i, (∀ t a, T[t]? = some a → ks (i + t) = nI a.2) → (∀ a ∈ T, a.2 < 19 ∧ ptK a.2 = false) → i + T.length ≤ sz → T.length < f → m_X2_pointRun_L2 ks sz f i = m_X2_pointRun_L2 ks sz (f - T.length) (i + T.length) := by
  intro T
  induction T with
  | nil => intro f i _ _ _ _; rfl
  | cons a T ih =>
    intro f i hT hK hm hf
    obtain ⟨f, rfl⟩ : ∃ q, f = q + 1 := ⟨f - 1, by omega⟩
    rw [List.length_cons] at hm hf
    have a1 := hT 0 a rfl
    rw [Nat.add_zero] at a1
    obtain ⟨b1, b2⟩ := hK a (List.mem_cons_self ..)
    rw [m_X2_pointRun_L2, if_neg (by omega), a1, pt_tab a.2 b1, if_pos b2, ih f (i + 1) (fun t r' hr => by rw [show i + 1 + t = i + (t + 1) by omega]; exact hT (t + 1) r' hr) (fun x hx => hK x (List.mem_cons_of_mem _ hx)) (by omega) (by omega), List.length_cons, show f + 1 - (T.length + 1) = f - T.length by omega, show i + 1 + T.length = i + (T.length + 1) by omega]
theorem pointRun_eq {ks : Nat → Int32} {Q : List KRun} (hk : ∀ t a, Q[t]? = some a → ks t = nI a.2) (hK : ∀ q ∈ Q, KOK q) : m_X2_pointRun ks Q.length = (preP Q).length := by
  have hs := pre_suf Q
  have hl : (preP Q).length + (sufP Q).length = Q.length := by rw [← List.length_append, hs]
  have hpre : ∀ t a, (preP Q)[t]? = some a → ks (0 + t) = nI a.2 := fun t a h => by
    rw [Nat.zero_add]
    refine hk t a ?_
    rw [← hs, List.getElem?_append_left (List.getElem?_eq_some_iff.mp h).1]; exact h
  have := pointRun_skip (ks := ks) (sz := Q.length) (preP Q) (Q.length + 1) 0 hpre (fun a ha => ⟨kok_lt (hK a (by rw [← hs]; exact List.mem_append_left _ ha)), pre_no a ha⟩) (by omega) (by omega)
  show m_X2_pointRun_L2 ks Q.length (Q.length + 1) 0 = _
  rw [this, Nat.zero_add, show Q.length + 1 - (preP Q).length = (Q.length - (preP Q).length) + 1 by omega, m_X2_pointRun_L2]
  by_cases c : Q.length ≤ (preP Q).length
  · rw [if_pos c]; omega
  · rw [if_neg c]
    cases hsf : sufP Q with
    | nil => rw [hsf] at hl; simp at hl; omega
    | cons q B =>
      have e : Q[(preP Q).length]? = some q := by
        have h2 := hs
        rw [hsf] at h2
        rw [← h2, List.getElem?_append_right (by rw [h2]; exact Nat.le_refl _), h2, Nat.sub_self]; rfl
      have hq : q ∈ Q := List.mem_of_getElem? e
      rw [hk _ q e, pt_tab q.2 (kok_lt (hK q hq)), suf_hd hsf, if_neg (by decide)]
theorem digitsIn_run {ds : Nat → Int32} {Q : List KRun} {en : Nat} : ∀ (S A B : List KRun) f x, Q = A ++ S ++ B → (∀ t q, Q[t]? = some q → ds t = nI (dgs (Q.take t) q q.1.2.1)) → en = A.length + S.length → S.length < f → m_X2_digitsIn_L9 ds Q.length en f A.length (nI x) = nI (x + sdg A S) := by
  intro S
  induction S with
  | nil =>
    intro A B f x _ _ he hf
    obtain ⟨f, rfl⟩ : ∃ q, f = q + 1 := ⟨f - 1, by omega⟩
    rw [m_X2_digitsIn_L9, if_pos (by rw [he]; simp)]; rfl
  | cons q S ih =>
    intro A B f x hQ hd he hf
    obtain ⟨f, rfl⟩ : ∃ q, f = q + 1 := ⟨f - 1, by omega⟩
    rw [List.length_cons] at he hf
    have hlen : Q.length = A.length + (S.length + 1) + B.length := by rw [hQ, List.length_append, List.length_append, List.length_cons]
    have hq : Q[A.length]? = some q := by rw [hQ, List.append_assoc, List.getElem?_append_right (Nat.le_refl _), Nat.sub_self]; rfl
    have htake : Q.take A.length = A := by rw [hQ, List.append_assoc, List.take_left]
    have e := hd _ q hq
    rw [htake] at e
    rw [m_X2_digitsIn_L9, if_neg (by omega), if_neg (by omega), e, nI_add]
    have := ih (A ++ [q]) B f (x + dgs A q q.1.2.1) (by rw [hQ]; simp) hd (by rw [List.length_append]; simp; omega) (by omega)
    rw [List.length_append] at this
    rw [show A.length + 1 = A.length + [q].length from rfl, this, Nat.add_assoc]; rfl
/-- the class's digits on both sides of the point -/
theorem digits_class {Q : List KRun} {ss ts ps ks ds : Nat → Int32} (hG : GQ Q) (hC : CQ Q ss ts ps ks ds) : m_X2_digitsIn ds Q.length 0 (m_X2_pointRun ks Q.length) = nI (sdg [] (preP Q)) ∧ m_X2_digitsIn ds Q.length (m_X2_pointRun ks Q.length) Q.length = nI (sdg (preP Q) (sufP Q)) := by
  have hs := pre_suf Q
  have hl : (preP Q).length + (sufP Q).length = Q.length := by rw [← List.length_append, hs]
  have h80 := hG.len
  have hd : ∀ t q, Q[t]? = some q → ds t = nI (dgs (Q.take t) q q.1.2.1) := fun t q h => (hC t q h).2.2.2.2
  rw [pointRun_eq (fun t a h => (hC t a h).2.2.2.1) hG.kok]
  constructor
  · have := digitsIn_run (ds := ds) (Q := Q) (en := (preP Q).length) (preP Q) [] (sufP Q) 81 0 (by rw [List.nil_append, hs]) hd (by simp) (by omega)
    rw [Nat.zero_add] at this
    exact this
  · have := digitsIn_run (ds := ds) (Q := Q) (en := Q.length) (sufP Q) (preP Q) [] 81 0 (by rw [List.append_nil, hs]) hd (by omega) (by omega)
    rw [Nat.zero_add] at this
    exact this
/-! the reference's digits -/
theorem isDO_run {sn kn : Nat → Int32} {k kq : Nat} {s : Int32} (hs : VS s) (hk19 : kq < 19) (hsn : sn k = tau s) (hkn : kn k = nI kq) : ∀ (T : List KRun) f j b, (∀ t a, T[t]? = some a → sn (j + t) = tau a.1.1) → (∀ a ∈ T, KOK a) → k = j + T.length → T.length < f →
    m_X5_isDigitOf_L44 sn kn k f j b = (flk kq && !(b && !hasS s T)) := by
  have fin : ∀ b : Bool, (if nI kq ≤ 7 then false else (if 12 ≤ nI kq then false else (if b = false then true else false))) = (flk kq && !b) := by
    intro b
    have := kq; revert b; revert hk19; clear hkn
    intro hk19
    exact (by decide +kernel : ∀ k, k < 19 → ∀ b : Bool, (if nI k ≤ 7 then false else (if 12 ≤ nI k then false else (if b = false then true else false))) = (flk k && !b)) kq hk19
  intro T
  induction T with
  | nil =>
    intro f j b _ _ hk hf
    obtain ⟨f, rfl⟩ : ∃ q, f = q + 1 := ⟨f - 1, by omega⟩
    rw [m_X5_isDigitOf_L44, if_pos (by rw [hk]; simp), hkn, fin]
    show _ = (flk kq && !(b && !false)); rw [Bool.not_false, Bool.and_true]
  | cons a T ih =>
    intro f j b hT hKT hk hf
    obtain ⟨f, rfl⟩ : ∃ q, f = q + 1 := ⟨f - 1, by omega⟩
    rw [List.length_cons] at hk hf
    have a1 := hT 0 a rfl
    rw [Nat.add_zero] at a1
    rw [m_X5_isDigitOf_L44, if_neg (by omega)]
    cases b with
    | false =>
      rw [if_pos rfl, hkn]
      have := fin false
      rw [if_pos rfl] at this
      rw [this]; rfl
    | true =>
      rw [if_neg (by decide), ih f (j + 1) _ (fun t r' hr => by rw [show j + 1 + t = j + (t + 1) by omega]; exact hT (t + 1) r' hr) (fun x hx => hKT x (List.mem_cons_of_mem _ hx)) (by omega) (by omega)]
      unfold m_X5_isDigitOf_j75_s0
      rw [a1, hsn]
      have hi := vs_inj (hKT a (List.mem_cons_self ..)).1 hs
      show _ = (flk kq && !(true && !(a.1.1 == s || hasS s T)))
      by_cases c : a.1.1 = s
      · rw [if_pos (hi.mpr c), beq_iff_eq.mpr c]; rfl
      · rw [if_neg (fun h => c (hi.mp h)), beq_eq_false_iff_ne.mpr c]; rfl
theorem dOf_tab : ∀ k, k < 19 → ∀ x : Bool, (if nI k = 12 then true else (if nI k = 6 then true else (if nI k = 7 then true else (if nI k = 16 then true else (if nI k = 17 then true else (flk k && x)))))) = (isDk k || (flk k && x)) := by decide +kernel
theorem dOf_eq {sn kn : Nat → Int32} {q : KRun} (hq : KOK q) {A : List KRun} (hA : ∀ a ∈ A, KOK a) (t : Nat) (hT : ∀ u a, (exq A ++ List.replicate (t + 1) q)[u]? = some a → sn u = tau a.1.1 ∧ kn u = nI a.2) :
    m_X5_isDigitOf sn kn ((exq A).length + t) = (isDk q.2 || (flk q.2 && (decide (0 < t) || hasS q.1.1 A))) := by
  have hat : (exq A ++ List.replicate (t + 1) q)[(exq A).length + t]? = some q := by
    rw [List.getElem?_append_right (by omega), List.getElem?_replicate, if_pos (by omega)]
  obtain ⟨hsn, hkn⟩ := hT _ q hat
  have hpre : ∀ u a, (exq A ++ List.replicate t q)[u]? = some a → sn u = tau a.1.1 := fun u a h => by
    refine (hT u a ?_).1
    rw [show List.replicate (t + 1) q = List.replicate t q ++ [q] from List.replicate_succ', ← List.append_assoc, List.getElem?_append_left (List.getElem?_eq_some_iff.mp h).1]; exact h
  have hl : (exq A ++ List.replicate t q).length = (exq A).length + t := by rw [List.length_append, List.length_replicate]
  have hKT : ∀ a ∈ exq A ++ List.replicate t q, KOK a := fun a ha => by
    rcases List.mem_append.mp ha with e | e
    · exact hA a (exq_mem e)
    · rw [(List.mem_replicate.mp e).2]; exact hq
  have hS : hasS q.1.1 (exq A ++ List.replicate t q) = (hasS q.1.1 A || decide (0 < t)) := by
    unfold hasS
    rw [List.any_append, exq_any hA, List.any_replicate]
    by_cases c : t = 0
    · rw [if_pos c, decide_eq_false (by omega)]
    · rw [if_neg c, decide_eq_true (by omega), beq_iff_eq.mpr rfl]
  unfold m_X5_isDigitOf
  have := isDO_run (sn := sn) (kn := kn) (k := (exq A).length + t) hq.1 (kok_lt hq) hsn hkn (exq A ++ List.replicate t q) ((exq A).length + t + 1) 0 true (fun t a h => by rw [Nat.zero_add]; exact hpre t a h) hKT (by omega) (by omega)
  rw [this, hkn, hS, Bool.true_and, Bool.not_not, dOf_tab q.2 (kok_lt hq), Bool.or_comm (hasS q.1.1 A)]

theorem dsum0_one {sn kn : Nat → Int32} {la : Nat} {q : KRun} (hq : KOK q) {A : List KRun} (hA : ∀ a ∈ A, KOK a) (hT : ∀ u a, (exq A ++ List.replicate q.1.2.1 q)[u]? = some a → sn u = tau a.1.1 ∧ kn u = nI a.2) (hE : (exq A).length + q.1.2.1 ≤ (m_X5_point kn la)) : ∀ m t f x, t + m = q.1.2.1 → m < f → m_X5_digitsOf_0_L18 sn kn la f ((exq A).length + t) (nI (x + dgs A q t)) = m_X5_digitsOf_0_L18 sn kn la (f - m) ((exq A).length + q.1.2.1) (nI (x + dgs A q q.1.2.1)) := by
  intro m
  induction m with
  | zero => intro t f x h1 h2; rw [show t = q.1.2.1 by omega]; rfl
  | succ m ih =>
    intro t f x h1 h2
    obtain ⟨f, rfl⟩ : ∃ q, f = q + 1 := ⟨f - 1, by omega⟩
    have e : bI (m_X5_digitsOf_0_j50_s0 sn kn ((exq A).length + t)) = nI (if (isDk q.2 || (flk q.2 && (decide (0 < t) || hasS q.1.1 A))) = true then 1 else 0) := by
      unfold m_X5_digitsOf_0_j50_s0
      rw [dOf_eq hq hA t (fun u a h => hT u a (by
        rw [show q.1.2.1 = (t + 1) + (q.1.2.1 - (t + 1)) by omega, ← List.replicate_append_replicate, ← List.append_assoc, List.getElem?_append_left (List.getElem?_eq_some_iff.mp h).1]; exact h))]
      cases (isDk q.2 || (flk q.2 && (decide (0 < t) || hasS q.1.1 A))) <;> rfl
    rw [m_X5_digitsOf_0_L18, if_neg (by omega), e, nI_add, Nat.add_assoc x, ← dgs_step t]
    have := ih (t + 1) f x (by omega) (by omega)
    rw [show (exq A).length + t + 1 = (exq A).length + (t + 1) by omega, show f + 1 - (m + 1) = f - m by omega]
    exact this
theorem dsum0_run {sn kn : Nat → Int32} {la : Nat} : ∀ (S A : List KRun) f x, (∀ a ∈ A, KOK a) → (∀ a ∈ S, KOK a) → (∀ u a, (exq (A ++ S))[u]? = some a → sn u = tau a.1.1 ∧ kn u = nI a.2) → (m_X5_point kn la) = (exq (A ++ S)).length → (exq S).length < f → m_X5_digitsOf_0_L18 sn kn la f (exq A).length (nI x) = nI (x + sdg A S) := by
  intro S
  induction S with
  | nil =>
    intro A f x _ _ _ hE hf
    obtain ⟨f, rfl⟩ : ∃ q, f = q + 1 := ⟨f - 1, by omega⟩
    rw [m_X5_digitsOf_0_L18, if_pos (by rw [hE, List.append_nil]; exact Nat.le_refl _)]; rfl
  | cons q S ih =>
    intro A f x hA hS hT hE hf
    have hq := hS q (List.mem_cons_self ..)
    have hlS : (exq (q :: S)).length = q.1.2.1 + (exq S).length := by
      show (List.replicate q.1.2.1 q ++ exq S).length = _
      rw [List.length_append, List.length_replicate]
    have hsp : exq (A ++ q :: S) = (exq A ++ List.replicate q.1.2.1 q) ++ exq S := by
      rw [exq_app, List.append_assoc]; rfl
    have hlen : (exq (A ++ q :: S)).length = (exq A).length + q.1.2.1 + (exq S).length := by
      rw [hsp, List.length_append, List.length_append, List.length_replicate]
    have := dsum0_one (sn := sn) (kn := kn) (la := la) hq hA (fun u a h => hT u a (by rw [hsp, List.getElem?_append_left (List.getElem?_eq_some_iff.mp h).1]; exact h)) (by rw [hE, hlen]; omega) q.1.2.1 0 f x (by omega) (by omega)
    have e0 : dgs A q 0 = 0 := by have := dgs_le (A := A) (q := q) 0; omega
    rw [e0, Nat.add_zero, Nat.add_zero] at this
    rw [this, ← exq_len1]
    have h2 := ih (A ++ [q]) (f - q.1.2.1) (x + dgs A q q.1.2.1) (fun a ha => by
      rcases List.mem_append.mp ha with e | e
      · exact hA a e
      · rw [List.mem_singleton] at e; subst e; exact hq) (fun a ha => hS a (List.mem_cons_of_mem _ ha)) (by rw [List.append_assoc]; exact hT) (by rw [List.append_assoc]; exact hE) (by omega)
    rw [h2, Nat.add_assoc]; rfl

theorem dsum1_one {sn kn : Nat → Int32} {la : Nat} {q : KRun} (hq : KOK q) {A : List KRun} (hA : ∀ a ∈ A, KOK a) (hT : ∀ u a, (exq A ++ List.replicate q.1.2.1 q)[u]? = some a → sn u = tau a.1.1 ∧ kn u = nI a.2) (hE : (exq A).length + q.1.2.1 ≤ la) : ∀ m t f x, t + m = q.1.2.1 → m < f → m_X5_digitsOf_1_L18 sn kn la f ((exq A).length + t) (nI (x + dgs A q t)) = m_X5_digitsOf_1_L18 sn kn la (f - m) ((exq A).length + q.1.2.1) (nI (x + dgs A q q.1.2.1)) := by
  intro m
  induction m with
  | zero => intro t f x h1 h2; rw [show t = q.1.2.1 by omega]; rfl
  | succ m ih =>
    intro t f x h1 h2
    obtain ⟨f, rfl⟩ : ∃ q, f = q + 1 := ⟨f - 1, by omega⟩
    have e : bI (m_X5_digitsOf_1_j50_s0 sn kn ((exq A).length + t)) = nI (if (isDk q.2 || (flk q.2 && (decide (0 < t) || hasS q.1.1 A))) = true then 1 else 0) := by
      unfold m_X5_digitsOf_1_j50_s0
      rw [dOf_eq hq hA t (fun u a h => hT u a (by
        rw [show q.1.2.1 = (t + 1) + (q.1.2.1 - (t + 1)) by omega, ← List.replicate_append_replicate, ← List.append_assoc, List.getElem?_append_left (List.getElem?_eq_some_iff.mp h).1]; exact h))]
      cases (isDk q.2 || (flk q.2 && (decide (0 < t) || hasS q.1.1 A))) <;> rfl
    rw [m_X5_digitsOf_1_L18, if_neg (by omega), e, nI_add, Nat.add_assoc x, ← dgs_step t]
    have := ih (t + 1) f x (by omega) (by omega)
    rw [show (exq A).length + t + 1 = (exq A).length + (t + 1) by omega, show f + 1 - (m + 1) = f - m by omega]
    exact this
theorem dsum1_run {sn kn : Nat → Int32} {la : Nat} : ∀ (S A : List KRun) f x, (∀ a ∈ A, KOK a) → (∀ a ∈ S, KOK a) → (∀ u a, (exq (A ++ S))[u]? = some a → sn u = tau a.1.1 ∧ kn u = nI a.2) → la = (exq (A ++ S)).length → (exq S).length < f → m_X5_digitsOf_1_L18 sn kn la f (exq A).length (nI x) = nI (x + sdg A S) := by
  intro S
  induction S with
  | nil =>
    intro A f x _ _ _ hE hf
    obtain ⟨f, rfl⟩ : ∃ q, f = q + 1 := ⟨f - 1, by omega⟩
    rw [m_X5_digitsOf_1_L18, if_pos (by rw [hE, List.append_nil]; exact Nat.le_refl _)]; rfl
  | cons q S ih =>
    intro A f x hA hS hT hE hf
    have hq := hS q (List.mem_cons_self ..)
    have hlS : (exq (q :: S)).length = q.1.2.1 + (exq S).length := by
      show (List.replicate q.1.2.1 q ++ exq S).length = _
      rw [List.length_append, List.length_replicate]
    have hsp : exq (A ++ q :: S) = (exq A ++ List.replicate q.1.2.1 q) ++ exq S := by
      rw [exq_app, List.append_assoc]; rfl
    have hlen : (exq (A ++ q :: S)).length = (exq A).length + q.1.2.1 + (exq S).length := by
      rw [hsp, List.length_append, List.length_append, List.length_replicate]
    have := dsum1_one (sn := sn) (kn := kn) (la := la) hq hA (fun u a h => hT u a (by rw [hsp, List.getElem?_append_left (List.getElem?_eq_some_iff.mp h).1]; exact h)) (by rw [hE, hlen]; omega) q.1.2.1 0 f x (by omega) (by omega)
    have e0 : dgs A q 0 = 0 := by have := dgs_le (A := A) (q := q) 0; omega
    rw [e0, Nat.add_zero, Nat.add_zero] at this
    rw [this, ← exq_len1]
    have h2 := ih (A ++ [q]) (f - q.1.2.1) (x + dgs A q q.1.2.1) (fun a ha => by
      rcases List.mem_append.mp ha with e | e
      · exact hA a e
      · rw [List.mem_singleton] at e; subst e; exact hq) (fun a ha => hS a (List.mem_cons_of_mem _ ha)) (by rw [List.append_assoc]; exact hT) (by rw [List.append_assoc]; exact hE) (by omega)
    rw [h2, Nat.add_assoc]; rfl

theorem p2_skip {kn : Nat → Int32} {la : Nat} : ∀ (T : List KRun) f i, (∀ t a, T[t]? = some a → kn (i + t) = nI a.2) → (∀ a ∈ T, a.2 < 19 ∧ a.2 ≠ 2 ∧ a.2 ≠ 15) → i + T.length ≤ la → T.length < f → m_X5_point_L2 kn la f i = m_X5_point_L2 kn la (f - T.length) (i + T.length) := by
  intro T
  induction T with
  | nil => intro f i _ _ _ _; rfl
  | cons a T ih =>
    intro f i hT hK hm hf
    obtain ⟨f, rfl⟩ : ∃ q, f = q + 1 := ⟨f - 1, by omega⟩
    rw [List.length_cons] at hm hf
    have a1 := hT 0 a rfl
    rw [Nat.add_zero] at a1
    obtain ⟨b1, b2, b3⟩ := hK a (List.mem_cons_self ..)
    have n2 : ¬ nI a.2 = 2 := fun h => b2 ((nI_eq (b := 2) (by omega) (by omega)).mp h)
    have n15 : ¬ nI a.2 = 15 := fun h => b3 ((nI_eq (b := 15) (by omega) (by omega)).mp h)
    rw [m_X5_point_L2, if_neg (by omega), a1, if_neg n2, if_neg n15, ih f (i + 1) (fun t r' hr => by rw [show i + 1 + t = i + (t + 1) by omega]; exact hT (t + 1) r' hr) (fun x hx => hK x (List.mem_cons_of_mem _ hx)) (by omega) (by omega), List.length_cons, show f + 1 - (T.length + 1) = f - T.length by omega, show i + 1 + T.length = i + (T.length + 1) by omega]
theorem p41_skip {kn : Nat → Int32} {la : Nat} : ∀ (T : List KRun) f i, (∀ t a, T[t]? = some a → kn (i + t) = nI a.2) → (∀ a ∈ T, a.2 < 19 ∧ a.2 ≠ 16) → i + T.length ≤ la → T.length < f → m_X5_point_L41 kn la f i = m_X5_point_L41 kn la (f - T.length) (i + T.length) := by
  intro T
  induction T with
  | nil => intro f i _ _ _ _; rfl
  | cons a T ih =>
    intro f i hT hK hm hf
    obtain ⟨f, rfl⟩ : ∃ q, f = q + 1 := ⟨f - 1, by omega⟩
    rw [List.length_cons] at hm hf
    have a1 := hT 0 a rfl
    rw [Nat.add_zero] at a1
    obtain ⟨b1, b2⟩ := hK a (List.mem_cons_self ..)
    have n16 : ¬ nI a.2 = 16 := fun h => b2 ((nI_eq (b := 16) (by omega) (by omega)).mp h)
    rw [m_X5_point_L41, if_neg (by omega), a1, if_neg n16, ih f (i + 1) (fun t r' hr => by rw [show i + 1 + t = i + (t + 1) by omega]; exact hT (t + 1) r' hr) (fun x hx => hK x (List.mem_cons_of_mem _ hx)) (by omega) (by omega), List.length_cons, show f + 1 - (T.length + 1) = f - T.length by omega, show i + 1 + T.length = i + (T.length + 1) by omega]
theorem al16 : al 16 2 = false ∧ al 16 15 = false := by decide +kernel
theorem point_eq {Q : List KRun} {sn kn : Nat → Int32} {la : Nat} (hG : GQ Q) (hR : RS Q sn kn 0 la) : m_X5_point kn la = (exq (preP Q)).length := by
  have hs := pre_suf Q
  have hK := hG.kok
  have hkn : ∀ j q, (exq Q)[j]? = some q → kn j = nI q.2 := fun j q h => by have := (hR.2 j q h).2; rw [Nat.zero_add] at this; exact this
  have hx : exq Q = exq (preP Q) ++ exq (sufP Q) := by rw [← exq_app, hs]
  have hl : (exq (preP Q)).length + (exq (sufP Q)).length = la := by rw [hR.1, hx, List.length_append]
  have hpre : ∀ t a, (exq (preP Q))[t]? = some a → kn (0 + t) = nI a.2 := fun t a h => by
    rw [Nat.zero_add]
    refine hkn t a ?_
    rw [hx, List.getElem?_append_left (List.getElem?_eq_some_iff.mp h).1]; exact h
  have hpk : ∀ a ∈ exq (preP Q), a.2 < 19 ∧ a.2 ≠ 2 ∧ a.2 ≠ 15 ∧ a.2 ≠ 16 := fun a ha => by
    have hm := exq_mem ha
    have hp := pre_no a hm
    refine ⟨kok_lt (hK a (by rw [← hs]; exact List.mem_append_left _ hm)), fun e => ?_, fun e => ?_, fun e => ?_⟩ <;> rw [e] at hp <;> cases hp
  show m_X5_point_L2 kn la (la + 1) 0 = _
  cases hsf : sufP Q with
  | nil =>
    rw [hsf] at hl
    have h0 : (exq ([] : List KRun)).length = 0 := rfl
    rw [p2_skip (exq (preP Q)) (la + 1) 0 hpre (fun a ha => ⟨(hpk a ha).1, (hpk a ha).2.1, (hpk a ha).2.2.1⟩) (by omega) (by omega), show la + 1 - (exq (preP Q)).length = 0 + 1 by omega, m_X5_point_L2, if_pos (by omega), p41_skip (exq (preP Q)) (la + 1) 0 hpre (fun a ha => ⟨(hpk a ha).1, (hpk a ha).2.2.2⟩) (by omega) (by omega), show la + 1 - (exq (preP Q)).length = 0 + 1 by omega, m_X5_point_L41, if_pos (by omega)]
    omega
  | cons q B =>
    have hpt := suf_hd hsf
    rw [hsf] at hs hx hl
    have hqm : q ∈ Q := by rw [← hs]; exact List.mem_append_right _ (List.mem_cons_self ..)
    obtain ⟨-, n1, -⟩ := hK q hqm
    have hlB : (exq (q :: B)).length = q.1.2.1 + (exq B).length := by
      show (List.replicate q.1.2.1 q ++ exq B).length = _
      rw [List.length_append, List.length_replicate]
    have hat : kn (0 + (exq (preP Q)).length) = nI q.2 := by
      rw [Nat.zero_add]
      refine hkn _ q ?_
      rw [hx, List.getElem?_append_right (Nat.le_refl _), Nat.sub_self]
      show (List.replicate q.1.2.1 q ++ exq B)[0]? = _
      rw [List.getElem?_append_left (by rw [List.length_replicate]; omega), List.getElem?_replicate, if_pos (by omega)]
    by_cases c16 : q.2 = 16
    · have hrest : ∀ a ∈ Q, a.2 ≠ 2 ∧ a.2 ≠ 15 := fun a ha => by
        have ha' := ha
        rw [← hs] at ha'
        have hpw := hG.pw
        rw [← hs] at hpw
        rcases List.mem_append.mp ha' with e | e
        · have hp := pre_no a e
          constructor <;> (intro e2; rw [e2] at hp; cases hp)
        · rcases List.mem_cons.mp e with e | e
          · subst e; rw [c16]; decide
          · have := (List.pairwise_cons.mp (List.pairwise_append.mp hpw).2.1).1 a e
            rw [c16] at this
            constructor
            · intro e2; rw [e2, al16.1] at this; cases this
            · intro e2; rw [e2, al16.2] at this; cases this
      rw [p2_skip (exq Q) (la + 1) 0 (fun t a h => by rw [Nat.zero_add]; exact hkn t a h) (fun a ha => ⟨kok_lt (hK a (exq_mem ha)), (hrest a (exq_mem ha)).1, (hrest a (exq_mem ha)).2⟩) (by rw [hR.1]; omega) (by rw [hR.1]; omega), ← hR.1, show la + 1 - la = 0 + 1 by omega, m_X5_point_L2, if_pos (by omega), p41_skip (exq (preP Q)) (la + 1) 0 hpre (fun a ha => ⟨(hpk a ha).1, (hpk a ha).2.2.2⟩) (by omega) (by omega), show la + 1 - (exq (preP Q)).length = (la - (exq (preP Q)).length) + 1 by omega, m_X5_point_L41, if_neg (by omega), hat, c16, if_pos (by decide)]
      omega
    · rw [p2_skip (exq (preP Q)) (la + 1) 0 hpre (fun a ha => ⟨(hpk a ha).1, (hpk a ha).2.1, (hpk a ha).2.2.1⟩) (by omega) (by omega), show la + 1 - (exq (preP Q)).length = (la - (exq (preP Q)).length) + 1 by omega, m_X5_point_L2, if_neg (by omega), hat]
      have h2 : q.2 = 2 ∨ q.2 = 15 := by
        unfold ptK at hpt
        simp only [Bool.or_eq_true, beq_iff_eq] at hpt
        rcases hpt with (e | e) | e
        · exact Or.inl e
        · exact Or.inr e
        · exact absurd e c16
      rcases h2 with e | e
      · rw [e, if_pos (by decide)]; omega
      · rw [e, if_neg (by decide), if_pos (by decide)]; omega
theorem digits_ref {Q : List KRun} {sn kn : Nat → Int32} {la : Nat} (hG : GQ Q) (hR : RS Q sn kn 0 la) : m_X5_digitsOf_0 sn kn la = nI (sdg [] (preP Q)) ∧ m_X5_digitsOf_1 sn kn la = nI (sdg (preP Q) (sufP Q)) := by
  have hs := pre_suf Q
  have hK := hG.kok
  have hpt := point_eq hG hR
  have hkn : ∀ j q, (exq Q)[j]? = some q → sn j = tau q.1.1 ∧ kn j = nI q.2 := fun j q h => by have := hR.2 j q h; rw [Nat.zero_add] at this; exact this
  have hx : exq Q = exq (preP Q) ++ exq (sufP Q) := by rw [← exq_app, hs]
  have hKp : ∀ a ∈ preP Q, KOK a := fun a ha => hK a (by rw [← hs]; exact List.mem_append_left _ ha)
  have hKs : ∀ a ∈ sufP Q, KOK a := fun a ha => hK a (by rw [← hs]; exact List.mem_append_right _ ha)
  constructor
  · have := dsum0_run (sn := sn) (kn := kn) (la := la) (preP Q) [] (m_X5_point kn la + 1) 0 (fun a h => by cases h) hKp (fun u a (h : (exq (preP Q))[u]? = some a) => hkn u a (by rw [hx, List.getElem?_append_left (List.getElem?_eq_some_iff.mp h).1]; exact h)) (by rw [hpt]; rfl) (by rw [hpt]; omega)
    rw [Nat.zero_add] at this
    exact this
  · have hl : (exq (preP Q)).length + (exq (sufP Q)).length = la := by rw [hR.1, hx, List.length_append]
    have := dsum1_run (sn := sn) (kn := kn) (la := la) (sufP Q) (preP Q) (la + 1) 0 hKp hKs (by rw [hs]; exact hkn) (by rw [hs]; exact hR.1) (by omega)
    rw [Nat.zero_add] at this
    show m_X5_digitsOf_1_L18 sn kn la (la + 1) (m_X5_point kn la) 0 = _
    rw [hpt]
    exact this
theorem al1617 : al 16 17 = false ∧ al 17 16 = false := by decide +kernel
/-- the class's scale of a good picture -/
theorem scale_same {Q : List KRun} {ss ts ps ks ds sn kn : Nat → Int32} {la : Nat} (hG : GQ Q) (hC : CQ Q ss ts ps ks ds) (hR : RS Q sn kn 0 la) : m_X1_init_j131_s0 ss ts ks ds Q.length = if m_X5_ofKind kn la 17 ≤ 0 then m_X5_digitsOf_1 sn kn la else 0 - m_X5_ofKind kn la 17 := by
  have hK := hG.kok
  have hsz := Nat.le_trans (exq_let Q) hG.size
  have k17 : m_X5_ofKind kn la 17 = nI (cnt (fun a => a.2 == 17) Q) := ofKind_eq (k := 17) hR hK (by omega)
  have h17 : m_X4_holds (m_X2_kindsPresent ks Q.length) 17 = Q.any (fun a => a.2 == 17) := holds_pres (fun t a h => (hC t a h).2.2.2.1) hK (b := 17) (by omega)
  have hcl := cnt_len (fun a => a.2 == 17) Q
  unfold m_X1_init_j131_s0
  rw [h17, k17, (digits_class hG hC).2, (digits_ref hG hR).2]
  by_cases c : Q.any (fun a => a.2 == 17) = true
  · have hpos := (cnt_pos (p := fun a => a.2 == 17) hK).mpr c
    rw [c, if_neg (by decide), if_neg (nI_nle hpos (by omega))]
    have hmapT : m_X2_countOf ss ts Q.length 80 = nI (sumT 80 (Q.map (·.1))) := by
      have := countOf_eq (ss := ss) (ts := ts) (ps := ps) (sg := 80) (R := Q.map (·.1)) (fun t r hr => by
        rw [List.getElem?_map] at hr
        cases hq : Q[t]? with
        | none => rw [hq] at hr; cases hr
        | some q => rw [hq] at hr; cases hr; exact ⟨(hC t q hq).1, (hC t q hq).2.1, (hC t q hq).2.2.1⟩)
      rw [List.length_map] at this
      exact this
    obtain ⟨x, hx, ex⟩ := List.any_eq_true.mp c
    have ex := beq_iff_eq.mp ex
    have e80 : cnt (fun q => q.1.1 == 80) Q = cnt (fun a => a.2 == 17) Q := cnt_congr (fun q hq => by
      have g := (kok_of (hK q hq) (P := fun s k => ((s == 44) = (k == 1)) ∧ ((s == 46) = (k == 2)) ∧ ((s == 80) = (k == 16 || k == 17)) ∧ ((s == 86) = (k == 15))) sg_kind).2.2.1
      have n16 : ¬ q.2 = 16 := fun e => by
        have := hG.two_kinds hq hx (by rw [e, ex]; decide)
        rw [e, ex, al1617.1, al1617.2] at this
        rcases this with h | h <;> cases h
      show (q.1.1 == 80) = (q.2 == 17)
      rw [g, beq_eq_false_iff_ne.mpr n16, Bool.false_or])
    rw [hmapT, cnt_sumT, e80]
    rw [Int32.zero_sub]
  · rw [if_pos (bf.mpr c), if_pos ((nz (by omega)).mpr (fun h => c ((cnt_pos hK).mp h)))]
theorem digits_same {Q : List KRun} {ss ts ps ks ds sn kn : Nat → Int32} {la : Nat} (hG : GQ Q) (hC : CQ Q ss ts ps ks ds) (hR : RS Q sn kn 0 la) (x : Int32) : m_X4_digits (m_X2_categoryOf ss Q.length (m_X2_kindsPresent ks Q.length)) (m_X2_digitsIn ds Q.length 0 (m_X2_pointRun ks Q.length)) (m_X2_digitsIn ds Q.length (m_X2_pointRun ks Q.length) Q.length) x = m_X5_digits sn kn la x := by
  unfold m_X4_digits m_X5_digits m_X5_isNumber m_X1_isNumber
  rw [cat_class hG (fun t a h => (hC t a h).1) (fun t a h => (hC t a h).2.2.2.1), cat_ref hG hR, (digits_class hG hC).1, (digits_class hG hC).2, (digits_ref hG hR).1, (digits_ref hG hR).2]
  generalize (if catQ Q = 3 then true else (if catQ Q = 4 then true else false)) = b
  cases b with
  | false =>
    rw [if_pos rfl]
    by_cases c0 : x = 0
    · rw [if_pos c0, if_pos rfl]
    · rw [if_neg c0]
      by_cases c1 : x = 1
      · rw [if_pos c1, if_pos rfl]
      · rw [if_neg c1]
  | true =>
    rw [if_neg (show ¬ true = false by decide), if_neg (show ¬ true = false by decide), if_neg (show ¬ true = false by decide)]
theorem scale_same2 {Q : List KRun} {ss ts ps ks ds sn kn : Nat → Int32} {la : Nat} (hG : GQ Q) (hC : CQ Q ss ts ps ks ds) (hR : RS Q sn kn 0 la) : m_X4_scale (m_X2_categoryOf ss Q.length (m_X2_kindsPresent ks Q.length)) (m_X1_init_j131_s0 ss ts ks ds Q.length) = m_X5_scale sn kn la := by
  unfold m_X4_scale m_X5_scale m_X5_isNumber m_X1_isNumber
  rw [cat_class hG (fun t a h => (hC t a h).1) (fun t a h => (hC t a h).2.2.2.1), cat_ref hG hR, scale_same hG hC hR]
