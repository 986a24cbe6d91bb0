/-! the mathematics, 9: a good picture, and what is counted in it -/
def cnt (p : KRun → Bool) : List KRun → Nat
  | [] => 0
  | q :: Q => (if p q = true then q.1.2.1 else 0) + cnt p Q
theorem cnt_exq (p : KRun → Bool) : ∀ Q : List KRun, (exq Q).countP p = cnt p Q := by
  intro Q
  induction Q with
  | nil => rfl
  | cons q Q ih =>
    show (List.replicate q.1.2.1 q ++ exq Q).countP p = (if p q = true then q.1.2.1 else 0) + cnt p Q
    rw [List.countP_append, List.countP_replicate, ih]
theorem cnt_len (p : KRun → Bool) (Q : List KRun) : cnt p Q ≤ (exq Q).length := by rw [← cnt_exq]; exact List.countP_le_length
theorem cnt_sumT (s : Int32) : ∀ Q : List KRun, sumT s (Q.map (·.1)) = cnt (fun q => q.1.1 == s) Q := by
  intro Q
  induction Q with
  | nil => rfl
  | cons q Q ih =>
    show (if q.1.1 = s then q.1.2.1 else 0) + sumT s (Q.map (·.1)) = (if (q.1.1 == s) = true then q.1.2.1 else 0) + cnt _ Q
    rw [ih]
    by_cases c : q.1.1 = s
    · rw [if_pos c, if_pos (beq_iff_eq.mpr c)]
    · rw [if_neg c, if_neg (fun h => c (beq_iff_eq.mp h))]
theorem cnt_pos {p : KRun → Bool} {Q : List KRun} (hK : ∀ q ∈ Q, KOK q) : 0 < cnt p Q ↔ Q.any p = true := by
  rw [← cnt_exq, List.countP_pos_iff]
  constructor
  · rintro ⟨a, ha, hp⟩; exact List.any_eq_true.mpr ⟨a, exq_mem ha, hp⟩
  · intro h
    rw [← exq_any hK] at h
    obtain ⟨a, ha, hp⟩ := List.any_eq_true.mp h
    exact ⟨a, ha, hp⟩
theorem cnt_all {p : KRun → Bool} {Q : List KRun} (hK : ∀ q ∈ Q, KOK q) : cnt p Q = (exq Q).length ↔ Q.all p = true := by
  rw [← cnt_exq, List.countP_eq_length]
  constructor
  · intro h
    refine List.all_eq_true.mpr (fun a ha => ?_)
    apply Classical.byContradiction
    intro hn
    have : Q.any (fun q => !p q) = true := List.any_eq_true.mpr ⟨a, ha, by rw [Bool.eq_false_iff.mpr hn]; rfl⟩
    rw [← exq_any hK] at this
    obtain ⟨b, hb, hp⟩ := List.any_eq_true.mp this
    rw [h b hb] at hp; cases hp
  · intro h a ha
    exact List.all_eq_true.mp h a (exq_mem ha)
theorem cnt_or {p r : KRun → Bool} {Q : List KRun} (hd : ∀ q, ¬ (p q = true ∧ r q = true)) : cnt p Q + cnt r Q = cnt (fun q => p q || r q) Q := by
  induction Q with
  | nil => rfl
  | cons q Q ih =>
    show ((if p q = true then q.1.2.1 else 0) + cnt p Q) + ((if r q = true then q.1.2.1 else 0) + cnt r Q) = (if (p q || r q) = true then q.1.2.1 else 0) + cnt _ Q
    rw [← ih]
    have := hd q
    cases hp : p q <;> cases hr : r q
    · show (0 + _) + (0 + _) = 0 + _; omega
    · show (0 + _) + (q.1.2.1 + _) = q.1.2.1 + _; omega
    · show (q.1.2.1 + _) + (0 + _) = q.1.2.1 + _; omega
    · exact absurd ⟨hp, hr⟩ this
theorem cnt_congr {p r : KRun → Bool} : ∀ {Q : List KRun}, (∀ q ∈ Q, p q = r q) → cnt p Q = cnt r Q := by
  intro Q
  induction Q with
  | nil => intro _; rfl
  | cons q Q ih =>
    intro h
    show (if p q = true then q.1.2.1 else 0) + cnt p Q = (if r q = true then q.1.2.1 else 0) + cnt r Q
    rw [h q (List.mem_cons_self ..), ih (fun q' hq => h q' (List.mem_cons_of_mem _ hq))]
/-- good pictures -/
def GQ (Q : List KRun) : Prop := (∀ q ∈ Q, KOK q) ∧ (Q.length ≤ 80) ∧ (Q.Pairwise (fun a b => al a.2 b.2 = true)) ∧ (∀ q ∈ Q, 1 < q.1.2.1 → al q.2 q.2 = true) ∧ (letN Q ≤ 10033) ∧ (∀ q ∈ Q, dup q.1.1 = true → flk q.2 = decide (1 < sumT q.1.1 (Q.map (·.1))))
theorem GQ.kok {Q : List KRun} (h : GQ Q) : ∀ q ∈ Q, KOK q := h.1
theorem GQ.len {Q : List KRun} (h : GQ Q) : Q.length ≤ 80 := h.2.1
theorem GQ.pw {Q : List KRun} (h : GQ Q) : Q.Pairwise (fun a b => al a.2 b.2 = true) := h.2.2.1
theorem GQ.two {Q : List KRun} (h : GQ Q) : ∀ q ∈ Q, 1 < q.1.2.1 → al q.2 q.2 = true := h.2.2.2.1
theorem GQ.size {Q : List KRun} (h : GQ Q) : letN Q ≤ 10033 := h.2.2.2.2.1
theorem GQ.many {Q : List KRun} (h : GQ Q) : ∀ q ∈ Q, dup q.1.1 = true → flk q.2 = decide (1 < sumT q.1.1 (Q.map (·.1))) := h.2.2.2.2.2
theorem kd_many : ∀ k ∈ vsL, ∀ m b p f : Bool, dup (nI k) = true → flk (kd (nI k) m b p f) = m := by decide +kernel
theorem ann_many (mn : Int32 → Bool) : ∀ R beh bare fst, (∀ r ∈ R, VS r.1) → ∀ q ∈ ann mn beh bare fst R, dup q.1.1 = true → flk q.2 = mn q.1.1 := by
  intro R
  induction R with
  | nil => intro _ _ _ _ q hq; cases hq
  | cons r R ih =>
    intro beh bare fst h q hq hd
    have hq' : q ∈ (r, kd r.1 (mn r.1) beh bare fst) :: ann mn (behN beh (kd r.1 (mn r.1) beh bare fst)) (bareN bare (kd r.1 (mn r.1) beh bare fst)) false R := hq
    rcases List.mem_cons.mp hq' with e | e
    · subst e
      exact vs_fin (P := fun s => ∀ m b p f : Bool, dup s = true → flk (kd s m b p f) = m) kd_many (h r (List.mem_cons_self ..)) _ _ _ _ hd
    · exact ih _ _ _ (fun r hr => h r (List.mem_cons_of_mem _ hr)) q e hd
theorem fm_pw : ∀ (S A : List KRun) d w, fm A d w S = none → A.Pairwise (fun a b => al a.2 b.2 = true) → (∀ q ∈ A, 1 < q.1.2.1 → al q.2 q.2 = true) → (A ++ S).Pairwise (fun a b => al a.2 b.2 = true) ∧ (∀ q ∈ A ++ S, 1 < q.1.2.1 → al q.2 q.2 = true) := by
  intro S
  induction S with
  | nil => intro A d w _ h1 h2; rw [List.append_nil]; exact ⟨h1, h2⟩
  | cons q S ih =>
    intro A d w hn h1 h2
    have hn' : (if okq A d w q then fm (A ++ [q]) (d + dgs A q q.1.2.1) (w + wdN q.1.1 * q.1.2.1) S else some q.1.2.2) = none := hn
    by_cases ho : okq A d w q
    · rw [if_pos ho] at hn'
      have := ih (A ++ [q]) _ _ hn' (List.pairwise_append.mpr ⟨h1, List.pairwise_singleton _ _, fun a ha b hb => by
        rw [List.mem_singleton] at hb; subst hb; exact List.all_eq_true.mp (okq_e ho).1 a ha⟩) (fun x hx => by
        rcases List.mem_append.mp hx with e | e
        · exact h2 x e
        · rw [List.mem_singleton] at e; subst e; exact (okq_e ho).2.1)
      rw [List.append_assoc] at this
      exact this
    · rw [if_neg ho] at hn'; cases hn'
theorem GQ_of {R : List Run} (hO : OKR R) (hn : fm [] 0 0 (anR R) = none) (hi : ∃ d w, inv (anR R) d w) : GQ (anR R) := by
  have hmap : (anR R).map (·.1) = R := ann_map (mny R) R false true true
  obtain ⟨p1, p2⟩ := fm_pw (anR R) [] 0 0 hn List.Pairwise.nil (fun q hq => by cases hq)
  refine ⟨ann_kok (mny R) R false true true hO.2, ?_, p1, p2, ?_, ?_⟩
  · rw [show (anR R).length = R.length from ann_len (mny R) R false true true]; exact hO.1
  · obtain ⟨d, w, z, v, hz, hv, -, -, hl, hd, hw⟩ := hi
    omega
  · intro q hq hd
    rw [hmap, ann_many (mny R) R false true true (fun r hr => (hO.2 r hr).2.2.1) q hq hd]
    exact mny_dup hd
/-- two kinds of one good picture -/
theorem GQ.two_kinds {Q : List KRun} (h : GQ Q) {a b : KRun} (ha : a ∈ Q) (hb : b ∈ Q) (hne : a.2 ≠ b.2) : al a.2 b.2 = true ∨ al b.2 a.2 = true := by
  have hp := h.pw
  clear h
  induction Q with
  | nil => cases ha
  | cons q Q ih =>
    obtain ⟨h1, h2⟩ := List.pairwise_cons.mp hp
    rcases List.mem_cons.mp ha with e | e
    · rcases List.mem_cons.mp hb with e' | e'
      · exact absurd (by rw [e, e']) hne
      · subst e; exact Or.inl (h1 b e')
    · rcases List.mem_cons.mp hb with e' | e'
      · subst e'; exact Or.inr (h1 a e)
      · exact ih e e' h2
/-- the reference's picture -/
def RS (Q : List KRun) (sn kn : Nat → Int32) (fr la : Nat) : Prop := la = (exq Q).length ∧ ∀ j q, (exq Q)[j]? = some q → sn (fr + j) = tau q.1.1 ∧ kn (fr + j) = nI q.2
theorem ofKind_run {kn : Nat → Int32} {la : Nat} {k : Nat} (hk : k < 19) : ∀ (T : List KRun) f i x, (∀ t a, T[t]? = some a → kn (i + t) = nI a.2) → (∀ a ∈ T, a.2 < 19) → la = i + T.length → T.length < f → m_X5_ofKind_L4 kn la (nI k) f i (nI x) = nI (x + T.countP (fun a => a.2 == k)) := by
  intro T
  induction T with
  | nil =>
    intro f i x _ _ hm hf
    obtain ⟨f, rfl⟩ : ∃ q, f = q + 1 := ⟨f - 1, by omega⟩
    rw [m_X5_ofKind_L4, if_pos (by rw [hm]; simp)]; rfl
  | cons a T ih =>
    intro f i x hT hK hm hf
    obtain ⟨f, rfl⟩ : ∃ q, f = q + 1 := ⟨f - 1, by omega⟩
    rw [List.length_cons] at hm hf
    have a1 := hT 0 a rfl
    rw [Nat.add_zero] at a1
    have e : bI (m_X5_ofKind_j28_s0 kn (nI k) i) = nI (if (a.2 == k) = true then 1 else 0) := by
      unfold m_X5_ofKind_j28_s0
      rw [a1]
      by_cases c : a.2 = k
      · rw [if_pos (by rw [c]), if_pos (beq_iff_eq.mpr c)]; rfl
      · rw [if_neg (fun h => c ((nI_eq (by have := hK a (List.mem_cons_self ..); omega) (by omega)).mp h)), if_neg (fun h => c (beq_iff_eq.mp h))]; rfl
    rw [m_X5_ofKind_L4, if_neg (by omega), e, nI_add, ih f (i + 1) _ (fun t r' hr => by rw [show i + 1 + t = i + (t + 1) by omega]; exact hT (t + 1) r' hr) (fun x hx => hK x (List.mem_cons_of_mem _ hx)) (by omega) (by omega), List.countP_cons, Nat.add_assoc, Nat.add_comm (List.countP _ T)]
theorem ofKind_eq {Q : List KRun} {sn kn : Nat → Int32} {la k : Nat} (h : RS Q sn kn 0 la) (hK : ∀ q ∈ Q, KOK q) (hk : k < 19) : m_X5_ofKind kn la (nI k) = nI (cnt (fun a => a.2 == k) Q) := by
  have := ofKind_run (kn := kn) (la := la) hk (exq Q) (la + 1) 0 0 (fun t a ha => by have := (h.2 t a ha).2; rw [Nat.zero_add] at this ⊢; exact this) (fun a ha => kok_lt (hK a (exq_mem ha))) (by rw [h.1]; omega) (by rw [h.1]; omega)
  rw [Nat.zero_add, cnt_exq] at this
  exact this
theorem ofSign_run {sn : Nat → Int32} {la : Nat} {s : Int32} (hs : VS s) : ∀ (T : List KRun) f i x, (∀ t a, T[t]? = some a → sn (i + t) = tau a.1.1) → (∀ a ∈ T, KOK a) → la = i + T.length → T.length < f → m_X5_ofSign_L4 sn la (tau s) f i (nI x) = nI (x + T.countP (fun a => a.1.1 == s)) := by
  intro T
  induction T with
  | nil =>
    intro f i x _ _ hm hf
    obtain ⟨f, rfl⟩ : ∃ q, f = q + 1 := ⟨f - 1, by omega⟩
    rw [m_X5_ofSign_L4, if_pos (by rw [hm]; simp)]; rfl
  | cons a T ih =>
    intro f i x hT hK hm hf
    obtain ⟨f, rfl⟩ : ∃ q, f = q + 1 := ⟨f - 1, by omega⟩
    rw [List.length_cons] at hm hf
    have a1 := hT 0 a rfl
    rw [Nat.add_zero] at a1
    have e : bI (m_X5_ofSign_j28_s0 sn (tau s) i) = nI (if (a.1.1 == s) = true then 1 else 0) := by
      unfold m_X5_ofSign_j28_s0
      rw [a1]
      have hi := vs_inj (hK a (List.mem_cons_self ..)).1 hs
      by_cases c : a.1.1 = s
      · rw [if_pos (hi.mpr c), if_pos (beq_iff_eq.mpr c)]; rfl
      · rw [if_neg (fun h => c (hi.mp h)), if_neg (fun h => c (beq_iff_eq.mp h))]; rfl
    rw [m_X5_ofSign_L4, if_neg (by omega), e, nI_add, ih f (i + 1) _ (fun t r' hr => by rw [show i + 1 + t = i + (t + 1) by omega]; exact hT (t + 1) r' hr) (fun x hx => hK x (List.mem_cons_of_mem _ hx)) (by omega) (by omega), List.countP_cons, Nat.add_assoc, Nat.add_comm (List.countP _ T)]
theorem ofSign_eq {Q : List KRun} {sn kn : Nat → Int32} {la : Nat} {s : Int32} (h : RS Q sn kn 0 la) (hK : ∀ q ∈ Q, KOK q) (hs : VS s) : m_X5_ofSign sn la (tau s) = nI (cnt (fun a => a.1.1 == s) Q) := by
  have := ofSign_run (sn := sn) (la := la) hs (exq Q) (la + 1) 0 0 (fun t a ha => by have := (h.2 t a ha).1; rw [Nat.zero_add] at this ⊢; exact this) (fun a ha => hK a (exq_mem ha)) (by rw [h.1]; omega) (by rw [h.1]; omega)
  rw [Nat.zero_add, cnt_exq] at this
  exact this
/-- the class's picture: signs, times, kinds -/
def CP (Q : List KRun) (ss ts ks : Nat → Int32) : Prop := ∀ t q, Q[t]? = some q → ss t = q.1.1 ∧ ts t = nI q.1.2.1 ∧ ks t = nI q.2
theorem pcount_run {ss ts : Nat → Int32} {n : Nat} {sg : Int32} : ∀ (T : List KRun) f i x, (∀ t a, T[t]? = some a → ss (i + t) = a.1.1 ∧ ts (i + t) = nI a.1.2.1) → n = i + T.length → T.length < f → m_X1_countOf_L4 ss ts n sg f i (nI x) = nI (x + cnt (fun a => a.1.1 == sg) T) := by
  intro T
  induction T with
  | nil =>
    intro f i x _ hm hf
    obtain ⟨f, rfl⟩ : ∃ q, f = q + 1 := ⟨f - 1, by omega⟩
    rw [m_X1_countOf_L4, if_pos (by rw [hm]; simp)]; rfl
  | cons a T ih =>
    intro f i x hT hm hf
    obtain ⟨f, rfl⟩ : ∃ q, f = q + 1 := ⟨f - 1, by omega⟩
    rw [List.length_cons] at hm hf
    obtain ⟨a1, a2⟩ := hT 0 a rfl
    rw [Nat.add_zero] at a1 a2
    have e : m_X1_countOf_j43_s0 ss ts sg i = nI (if (a.1.1 == sg) = true then a.1.2.1 else 0) := by
      unfold m_X1_countOf_j43_s0
      rw [a1, a2]
      by_cases c : a.1.1 = sg
      · rw [if_pos c, if_pos (beq_iff_eq.mpr c)]
      · rw [if_neg c, if_neg (fun h => c (beq_iff_eq.mp h))]; rfl
    rw [m_X1_countOf_L4, if_neg (by omega), e, nI_add, ih f (i + 1) _ (fun t r' hr => by rw [show i + 1 + t = i + (t + 1) by omega]; exact hT (t + 1) r' hr) (by omega) (by omega), Nat.add_assoc]
    rfl
theorem pcount_eq {Q : List KRun} {ss ts ks : Nat → Int32} (h : CP Q ss ts ks) (sg : Int32) : m_X1_countOf ss ts Q.length sg = nI (cnt (fun a => a.1.1 == sg) Q) := by
  have := pcount_run (ss := ss) (ts := ts) (n := Q.length) (sg := sg) Q (Q.length + 1) 0 0 (fun t a ha => by rw [Nat.zero_add]; exact ⟨(h t a ha).1, (h t a ha).2.1⟩) (by omega) (by omega)
  rw [Nat.zero_add] at this
  exact this
theorem pkind_run {ks ts : Nat → Int32} {n : Nat} {k : Nat} (hk : k < 19) : ∀ (T : List KRun) f i x, (∀ t a, T[t]? = some a → ks (i + t) = nI a.2 ∧ ts (i + t) = nI a.1.2.1) → (∀ a ∈ T, a.2 < 19) → n = i + T.length → T.length < f → m_X1_countOfKind_L4 ks ts n (nI k) f i (nI x) = nI (x + cnt (fun a => a.2 == k) T) := by
  intro T
  induction T with
  | nil =>
    intro f i x _ _ hm hf
    obtain ⟨f, rfl⟩ : ∃ q, f = q + 1 := ⟨f - 1, by omega⟩
    rw [m_X1_countOfKind_L4, if_pos (by rw [hm]; simp)]; rfl
  | cons a T ih =>
    intro f i x hT hK hm hf
    obtain ⟨f, rfl⟩ : ∃ q, f = q + 1 := ⟨f - 1, by omega⟩
    rw [List.length_cons] at hm hf
    obtain ⟨a1, a2⟩ := hT 0 a rfl
    rw [Nat.add_zero] at a1 a2
    have e : m_X1_countOfKind_j43_s0 ks ts (nI k) i = nI (if (a.2 == k) = true then a.1.2.1 else 0) := by
      unfold m_X1_countOfKind_j43_s0
      rw [a1, a2]
      by_cases c : a.2 = k
      · rw [if_pos (by rw [c]), if_pos (beq_iff_eq.mpr c)]
      · rw [if_neg (fun h => c ((nI_eq (by have := hK a (List.mem_cons_self ..); omega) (by omega)).mp h)), if_neg (fun h => c (beq_iff_eq.mp h))]; rfl
    rw [m_X1_countOfKind_L4, if_neg (by omega), e, nI_add, ih f (i + 1) _ (fun t r' hr => by rw [show i + 1 + t = i + (t + 1) by omega]; exact hT (t + 1) r' hr) (fun x hx => hK x (List.mem_cons_of_mem _ hx)) (by omega) (by omega), Nat.add_assoc]
    rfl
theorem pkind_eq {Q : List KRun} {ss ts ks : Nat → Int32} (h : CP Q ss ts ks) (hK : ∀ q ∈ Q, KOK q) {k : Nat} (hk : k < 19) : m_X1_countOfKind ks ts Q.length (nI k) = nI (cnt (fun a => a.2 == k) Q) := by
  have := pkind_run (ks := ks) (ts := ts) (n := Q.length) hk Q (Q.length + 1) 0 0 (fun t a ha => by rw [Nat.zero_add]; exact ⟨(h t a ha).2.2, (h t a ha).2.1⟩) (fun a ha => kok_lt (hK a ha)) (by omega) (by omega)
  rw [Nat.zero_add] at this
  exact this
theorem sg_kind : ∀ k ∈ vsL, ∀ m b p f : Bool, ((nI k == 44) = (kd (nI k) m b p f == 1)) ∧ ((nI k == 46) = (kd (nI k) m b p f == 2)) ∧ ((nI k == 80) = (kd (nI k) m b p f == 16 || kd (nI k) m b p f == 17)) ∧ ((nI k == 86) = (kd (nI k) m b p f == 15)) := by decide +kernel
/-- insertion -/
theorem insertion_same {Q : List KRun} {ss ts ks sn kn : Nat → Int32} {la : Nat} (hG : GQ Q) (hC : CP Q ss ts ks) (hR : RS Q sn kn 0 la) (x : Int32) : m_X4_insertion ss ts ks Q.length x = m_X5_insertion sn kn la x := by
  have hK := hG.kok
  have s66 : m_X5_ofSign sn la 66 = nI (cnt (fun a => a.1.1 == 66) Q) := ofSign_eq (s := 66) hR hK ⟨66, by decide, rfl⟩
  have s48 : m_X5_ofSign sn la 48 = nI (cnt (fun a => a.1.1 == 48) Q) := ofSign_eq (s := 48) hR hK ⟨48, by decide, rfl⟩
  have s47 : m_X5_ofSign sn la 47 = nI (cnt (fun a => a.1.1 == 47) Q) := ofSign_eq (s := 47) hR hK ⟨47, by decide, rfl⟩
  have k1 : m_X5_ofKind kn la 1 = nI (cnt (fun a => a.2 == 1) Q) := ofKind_eq (k := 1) hR hK (by omega)
  have k2 : m_X5_ofKind kn la 2 = nI (cnt (fun a => a.2 == 2) Q) := ofKind_eq (k := 2) hR hK (by omega)
  have k3 : m_X5_ofKind kn la 3 = nI (cnt (fun a => a.2 == 3) Q) := ofKind_eq (k := 3) hR hK (by omega)
  have k4 : m_X5_ofKind kn la 4 = nI (cnt (fun a => a.2 == 4) Q) := ofKind_eq (k := 4) hR hK (by omega)
  have k5 : m_X5_ofKind kn la 5 = nI (cnt (fun a => a.2 == 5) Q) := ofKind_eq (k := 5) hR hK (by omega)
  have p3 : m_X1_countOfKind ks ts Q.length 3 = nI (cnt (fun a => a.2 == 3) Q) := pkind_eq (k := 3) hC hK (by omega)
  have p4 : m_X1_countOfKind ks ts Q.length 4 = nI (cnt (fun a => a.2 == 4) Q) := pkind_eq (k := 4) hC hK (by omega)
  have p5 : m_X1_countOfKind ks ts Q.length 5 = nI (cnt (fun a => a.2 == 5) Q) := pkind_eq (k := 5) hC hK (by omega)
  have c1 : cnt (fun a => a.1.1 == 44) Q = cnt (fun a => a.2 == 1) Q := cnt_congr (fun q hq => (kok_of (hK q hq) (P := fun s k => ((s == 44) = (k == 1)) ∧ ((s == 46) = (k == 2)) ∧ ((s == 80) = (k == 16 || k == 17)) ∧ ((s == 86) = (k == 15))) sg_kind).1)
  have c2 : cnt (fun a => a.1.1 == 46) Q = cnt (fun a => a.2 == 2) Q := cnt_congr (fun q hq => (kok_of (hK q hq) (P := fun s k => ((s == 44) = (k == 1)) ∧ ((s == 46) = (k == 2)) ∧ ((s == 80) = (k == 16 || k == 17)) ∧ ((s == 86) = (k == 15))) sg_kind).2.1)
  unfold m_X4_insertion m_X1_insertionsOf m_X5_insertion
  rw [s66, s48, s47, k1, k2, k3, k4, k5, p3, p4, p5, pcount_eq hC, pcount_eq hC, pcount_eq hC, pcount_eq hC, pcount_eq hC, c1, c2]
  by_cases n0 : x < 0
  · rw [if_pos n0]
    have ne : ∀ k : Nat, k < 2 ^ 31 → ¬ x = nI k := fun k hk h => by rw [h] at n0; exact nI_pos hk n0
    rw [if_neg (show ¬ x = 0 from ne 0 (by omega)), if_neg (show ¬ x = 1 from ne 1 (by omega)), if_neg (show ¬ x = 2 from ne 2 (by omega)), if_neg (show ¬ x = 3 from ne 3 (by omega)), if_neg (show ¬ x = 4 from ne 4 (by omega)), if_neg (show ¬ x = 5 from ne 5 (by omega)), if_neg (show ¬ x = 6 from ne 6 (by omega))]
  · rw [if_neg n0]
    obtain ⟨j, hj, rfl⟩ := nI_of n0
    by_cases c6 : j ≤ 6
    · rw [if_pos (show nI j ≤ 6 from nI_le (a := j) (b := 6) c6 (by omega))]
      rcases (show j = 0 ∨ j = 1 ∨ j = 2 ∨ j = 3 ∨ j = 4 ∨ j = 5 ∨ j = 6 by omega) with rfl | rfl | rfl | rfl | rfl | rfl | rfl <;> rfl
    · have ne : ∀ k : Nat, k ≤ 6 → ¬ nI j = nI k := fun k hk h => by have := (nI_eq hj (by omega)).mp h; omega
      rw [if_neg (show ¬ nI j ≤ 6 from nI_ge (a := 6) (b := j) (by omega) hj), if_neg (show ¬ nI j = 0 from ne 0 (by omega)), if_neg (show ¬ nI j = 1 from ne 1 (by omega)), if_neg (show ¬ nI j = 2 from ne 2 (by omega)), if_neg (show ¬ nI j = 3 from ne 3 (by omega)), if_neg (show ¬ nI j = 4 from ne 4 (by omega)), if_neg (show ¬ nI j = 5 from ne 5 (by omega)), if_neg (show ¬ nI j = 6 from ne 6 (by omega))]
