/-! the mathematics, 6: the first sign that can't be there -/
def al (a b : Nat) : Bool := m_X4_holds (tbL.getD a 0) (nI b)
def isDk (k : Nat) : Bool := k == 12 || k == 6 || k == 7 || k == 16 || k == 17
def flk (k : Nat) : Bool := k == 8 || k == 9 || k == 10 || k == 11
def hasS (s : Int32) (A : List KRun) : Bool := A.any (fun a => a.1.1 == s)
def wdN (s : Int32) : Nat := if s = 83 then 0 else (if s = 86 then 0 else (if s = 80 then 0 else m_X4_widthOf s))
def dgs (A : List KRun) (q : KRun) (t : Nat) : Nat := if isDk q.2 = true then t else (if flk q.2 = true then (if hasS q.1.1 A = true then t else t - 1) else 0)
def rival (A : List KRun) (q : KRun) : Bool := if q.1.1 = 42 then hasS 90 A else (if q.1.1 = 43 then flk q.2 && hasS 45 A else (if q.1.1 = 45 then flk q.2 && hasS 43 A else (if q.1.1 = 90 then hasS 42 A else false)))
def okb (A : List KRun) (d w : Nat) (q : KRun) : Bool := decide ((A.all (fun a => al a.2 q.2) = true) ∧ (1 < q.1.2.1 → al q.2 q.2 = true) ∧ rival A q = false ∧ d + dgs A q q.1.2.1 ≤ 31 ∧ w + wdN q.1.1 * q.1.2.1 ≤ 9999)
abbrev okq (A : List KRun) (d w : Nat) (q : KRun) : Prop := okb A d w q = true
theorem okq_e {A : List KRun} {d w : Nat} {q : KRun} (h : okq A d w q) : (A.all (fun a => al a.2 q.2) = true) ∧ (1 < q.1.2.1 → al q.2 q.2 = true) ∧ rival A q = false ∧ d + dgs A q q.1.2.1 ≤ 31 ∧ w + wdN q.1.1 * q.1.2.1 ≤ 9999 := of_decide_eq_true h
theorem okq_m {A : List KRun} {d w : Nat} {q : KRun} (h : (A.all (fun a => al a.2 q.2) = true) ∧ (1 < q.1.2.1 → al q.2 q.2 = true) ∧ rival A q = false ∧ d + dgs A q q.1.2.1 ≤ 31 ∧ w + wdN q.1.1 * q.1.2.1 ≤ 9999) : okq A d w q := decide_eq_true h
def fm : List KRun → Nat → Nat → List KRun → Option Nat
  | _, _, _, [] => none
  | A, d, w, q :: S => if okq A d w q then fm (A ++ [q]) (d + dgs A q q.1.2.1) (w + wdN q.1.1 * q.1.2.1) S else some q.1.2.2
def fmI : Option Nat → Int32
  | none => -1
  | some p => nI p
/-- what every run with its kind keeps -/
def KOK (q : KRun) : Prop := VS q.1.1 ∧ 1 ≤ q.1.2.1 ∧ q.1.2.1 ≤ 9999 ∧ q.1.2.2 < 80 ∧ ∃ m b p f : Bool, q.2 = kd q.1.1 m b p f
theorem ann_kok (mn : Int32 → Bool) : ∀ R beh bare fst, (∀ r ∈ R, 1 ≤ r.2.1 ∧ r.2.1 ≤ 9999 ∧ VS r.1 ∧ r.2.2 < 80) → ∀ q ∈ ann mn beh bare fst R, KOK q := by
  intro R
  induction R with
  | nil => intro _ _ _ _ q hq; cases hq
  | cons r R ih =>
    intro beh bare fst h q hq
    have hq' : q ∈ (r, kd r.1 (mn r.1) beh bare fst) :: ann mn (behN beh (kd r.1 (mn r.1) beh bare fst)) (bareN bare (kd r.1 (mn r.1) beh bare fst)) false R := hq
    rcases List.mem_cons.mp hq' with e | e
    · subst e
      obtain ⟨a, b, c, d⟩ := h r (List.mem_cons_self ..)
      exact ⟨c, a, b, d, _, _, _, _, rfl⟩
    · exact ih _ _ _ (fun r hr => h r (List.mem_cons_of_mem _ hr)) q e
theorem kok_of {q : KRun} (h : KOK q) {P : Int32 → Nat → Prop} (hP : ∀ k ∈ vsL, ∀ m b p f : Bool, P (nI k) (kd (nI k) m b p f)) : P q.1.1 q.2 := by
  obtain ⟨⟨k, hk, e⟩, -, -, -, m, b, p, f, e2⟩ := h
  rw [e2, e]
  exact hP k hk m b p f
theorem kok_lt {q : KRun} (h : KOK q) : q.2 < 19 := kok_of h (P := fun _ k => k < 19) kd_lt
theorem pm_flk : ∀ k ∈ vsL, ∀ m b p f : Bool, (nI k = 43 ∨ nI k = 45 → flk (kd (nI k) m b p f) = (kd (nI k) m b p f == 8 || kd (nI k) m b p f == 9)) ∧ ((kd (nI k) m b p f == 8 || kd (nI k) m b p f == 9) = true → nI k = 43 ∨ nI k = 45) := by decide +kernel
theorem bit01 (x : Int32) : x &&& 1 = 0 ∨ x &&& 1 = 1 := by
  obtain ⟨j, hj, e⟩ := pk_andE x (m := 1) 1 (by decide)
  rcases (show j = 0 ∨ j = 1 by omega) with rfl | rfl
  · exact Or.inl e
  · exact Or.inr e
theorem holds_and (a b k : Int32) : m_X4_holds (a &&& b) k = (m_X4_holds a k && m_X4_holds b k) := by
  unfold m_X4_holds
  rw [Int32.shiftRight_and]
  have e : ((a >>> (k &&& 31)) &&& (b >>> (k &&& 31))) &&& 1 = ((a >>> (k &&& 31)) &&& 1) &&& ((b >>> (k &&& 31)) &&& 1) := by
    rw [← Int32.toBitVec_inj]
    simp only [Int32.toBitVec_and]
    ext i hi
    simp only [BitVec.getElem_and]
    cases (a >>> (k &&& 31)).toBitVec[i] <;> cases (b >>> (k &&& 31)).toBitVec[i] <;> cases (Int32.toBitVec 1)[i] <;> rfl
  rw [e]
  rcases bit01 (a >>> (k &&& 31)) with h1 | h1 <;> rcases bit01 (b >>> (k &&& 31)) with h2 | h2 <;> rw [h1, h2] <;> decide
theorem stands_run {ss : Nat → Int32} {sg : Int32} {en : Nat} : ∀ (S : List KRun) k i, (∀ t q, S[t]? = some q → ss (i + t) = q.1.1) → en = i + S.length → S.length < k → m_X2_standsAhead_L2 ss sg en k i = hasS sg S := by
  intro S
  induction S with
  | nil =>
    intro k i h hs hk
    obtain ⟨k, rfl⟩ : ∃ q, k = q + 1 := ⟨k - 1, by omega⟩
    rw [m_X2_standsAhead_L2, if_pos (by rw [hs]; simp)]; rfl
  | cons q S ih =>
    intro k i h hs hk
    obtain ⟨k, rfl⟩ : ∃ q, k = q + 1 := ⟨k - 1, by omega⟩
    rw [List.length_cons] at hs hk
    have a1 := h 0 q rfl
    rw [Nat.add_zero] at a1
    rw [m_X2_standsAhead_L2, if_neg (by omega), a1, ih k (i + 1) (fun t r' hr => by rw [show i + 1 + t = i + (t + 1) by omega]; exact h (t + 1) r' hr) (by omega) (by omega)]
    show _ = ((q.1.1 == sg) || hasS sg S)
    by_cases c : q.1.1 = sg
    · rw [if_pos c, beq_iff_eq.mpr c]; rfl
    · rw [if_neg c, beq_eq_false_iff_ne.mpr c]; rfl
theorem stands_eq {ss : Nat → Int32} {sg : Int32} {A : List KRun} (h : ∀ t q, A[t]? = some q → ss t = q.1.1) : m_X2_standsAhead ss sg A.length = hasS sg A :=
  stands_run A (A.length + 1) 0 (fun t q hq => by rw [Nat.zero_add]; exact h t q hq) (by omega) (by omega)
/-- the class's rows of the runs with their kinds and digits -/
def CQ (Q : List KRun) (ss ts ps ks ds : Nat → Int32) : Prop := ∀ t q, Q[t]? = some q → ss t = q.1.1 ∧ ts t = nI q.1.2.1 ∧ ps t = nI q.1.2.2 ∧ ks t = nI q.2 ∧ ds t = nI (dgs (Q.take t) q q.1.2.1)
theorem digits_run {ss ts ks : Nat → Int32} {sz : Nat} : ∀ n k i ds, sz = i + n → n < k → ∀ j, m_X2_findDigits_L2 ss ts ks sz k i ds j = if i ≤ j ∧ j < sz then m_X2_findDigits_j89_l2 ss ts ks j else ds j := by
  intro n
  induction n with
  | zero =>
    intro k i ds hs hk j
    obtain ⟨k, rfl⟩ : ∃ q, k = q + 1 := ⟨k - 1, by omega⟩
    rw [m_X2_findDigits_L2, if_pos (by omega), if_neg (by omega)]
  | succ n ih =>
    intro k i ds hs hk j
    obtain ⟨k, rfl⟩ : ∃ q, k = q + 1 := ⟨k - 1, by omega⟩
    rw [m_X2_findDigits_L2, if_neg (by omega), ih k (i + 1) _ (by omega) (by omega)]
    by_cases c : i = j
    · subst c
      rw [if_neg (by omega), if_pos (by omega), pk_us]
    · rw [pk_un (Ne.symm c)]
      by_cases d : i ≤ j ∧ j < sz
      · rw [if_pos d, if_pos (by omega)]
      · rw [if_neg d, if_neg (by omega)]
theorem mask_dig : ∀ k, k < 19 → m_X4_holds 200896 (nI k) = isDk k ∧ m_X4_holds 3840 (nI k) = flk k := by decide +kernel
theorem CQ_of {R : List Run} {ss ts ps ks ds : Nat → Int32} (hO : OKR R) (hC : CR R ss ts ps) : CQ (anR R) ss ts ps (m_X2_findKinds ss ts ks R.length) (m_X2_findDigits ss ts (m_X2_findKinds ss ts ks R.length) ds R.length) := by
  intro t q hq
  have hmap := ann_map (mny R) R false true true
  have hlen : (anR R).length = R.length := ann_len (mny R) R false true true
  have hrow : ∀ (t : Nat) (q : KRun), (anR R)[t]? = some q → R[t]? = some q.1 := fun t q h => by
    have : (List.map (·.1) (anR R))[t]? = R[t]? := congrArg (fun l : List Run => l[t]?) hmap
    rw [← this, List.getElem?_map, h]; rfl
  have hk := fun (t : Nat) (q : KRun) h => findKinds_eq (ks := ks) hO hC t q h
  obtain ⟨c1, c2, c3⟩ := hC t q.1 (hrow t q hq)
  have htl : t < R.length := by rw [← hlen]; exact (List.getElem?_eq_some_iff.mp hq).1
  have hkok : KOK q := ann_kok (mny R) R false true true hO.2 q (List.mem_of_getElem? hq)
  refine ⟨c1, c2, c3, hk t q hq, ?_⟩
  obtain ⟨m1, m2⟩ := mask_dig q.2 (kok_lt hkok)
  have hst : m_X2_standsAhead ss q.1.1 t = hasS q.1.1 ((anR R).take t) := by
    have := stands_eq (ss := ss) (sg := q.1.1) (A := (anR R).take t) (fun u a ha => by
      have hu : u < t := by
        have := (List.getElem?_eq_some_iff.mp ha).1
        rw [List.length_take] at this; omega
      rw [List.getElem?_take_of_lt hu] at ha
      exact (hC u a.1 (hrow u a ha)).1)
    rw [List.length_take, hlen, show min t R.length = t by omega] at this
    exact this
  show m_X2_findDigits_L2 ss ts _ R.length (R.length + 1) 0 ds t = _
  rw [digits_run R.length (R.length + 1) 0 ds (by omega) (by omega) t, if_pos (by omega)]
  unfold m_X2_findDigits_j89_l2 dgs
  rw [hk t q hq, m1, m2, c1, c2, hst]
  obtain ⟨-, k1, -, -, -⟩ := hkok
  have nf : ¬ (false = true) := by decide
  have nt : ¬ (true = false) := by decide
  cases isDk q.2 with
  | true => rw [if_neg nt, if_pos (show true = true from rfl)]
  | false =>
    rw [if_pos (show false = false from rfl), if_neg nf]
    cases flk q.2 with
    | false => rw [if_pos (show false = false from rfl), if_neg nf]; rfl
    | true =>
      rw [if_neg nt, if_pos (show true = true from rfl)]
      cases hasS q.1.1 ((anR R).take t) with
      | true => rw [if_neg nt, if_pos (show true = true from rfl)]
      | false => rw [if_pos (show false = false from rfl), if_neg nf]; exact pk_sub (b := 1) k1
theorem wd_sc {s : Int32} {n : Nat} : m_X4_signsCounted s (nI n) = nI (wdN s * n) := by
  unfold m_X4_signsCounted wdN
  by_cases h1 : s = 83
  · rw [if_pos h1, if_pos h1, Nat.zero_mul]; rfl
  rw [if_neg h1, if_neg h1]
  by_cases h2 : s = 86
  · rw [if_pos h2, if_pos h2, Nat.zero_mul]; rfl
  rw [if_neg h2, if_neg h2]
  by_cases h3 : s = 80
  · rw [if_pos h3, if_pos h3, Nat.zero_mul]; rfl
  rw [if_neg h3, if_neg h3, pk_mul, Nat.mul_comm]
theorem wdN_le (s : Int32) : wdN s ≤ 2 := by
  unfold wdN
  split; · omega
  split; · omega
  split; · omega
  exact m_X4_widthOf_le s
theorem isKind_eq {k : Nat} (h : k < 19) : m_X4_isKind (nI k) = true := by
  unfold m_X4_isKind
  rw [if_neg (nI_pos (by omega)), if_neg (show ¬ 19 ≤ nI k from nI_ge (a := k) (b := 19) h (by omega))]
theorem fm_class {Q : List KRun} {ss ts ps ks ds : Nat → Int32} (hC : CQ Q ss ts ps ks ds) (hK : ∀ q ∈ Q, KOK q) : ∀ (S A : List KRun) k x1 d w, Q = A ++ S → (∀ b, b < 19 → m_X4_holds x1 (nI b) = A.all (fun a => al a.2 b)) → d ≤ 31 → w ≤ 9999 → S.length < k → m_X2_firstMisplaced_L10 ss ts ps ks ds Q.length k A.length x1 (nI d) (nI w) = fmI (fm A d w S) := by
  intro S
  induction S with
  | nil =>
    intro A k x1 d w hQ _ _ _ hk
    obtain ⟨k, rfl⟩ : ∃ q, k = q + 1 := ⟨k - 1, by omega⟩
    rw [m_X2_firstMisplaced_L10, if_pos (by rw [hQ, List.append_nil]; omega)]; rfl
  | cons q S ih =>
    intro A k x1 d w hQ hx hd hw hk
    obtain ⟨k, rfl⟩ : ∃ q, k = q + 1 := ⟨k - 1, by omega⟩
    rw [List.length_cons] at hk
    have hq : Q[A.length]? = some q := by rw [hQ, List.getElem?_append_right (Nat.le_refl _), Nat.sub_self]; rfl
    have htake : Q.take A.length = A := by rw [hQ, List.take_left]
    obtain ⟨c1, c2, c3, c4, c5⟩ := hC _ q hq
    rw [htake] at c5
    have hqm : q ∈ Q := List.mem_of_getElem? hq
    have hkok := hK q hqm
    have hk19 := kok_lt hkok
    obtain ⟨-, n1, n2, p1, -⟩ := hkok
    have hsA : ∀ s, m_X2_standsAhead ss s A.length = hasS s A := fun s => stands_eq (fun t a ha => by
      have : Q[t]? = some a := by
        rw [hQ, List.getElem?_append_left (List.getElem?_eq_some_iff.mp ha).1]; exact ha
      exact (hC t a this).1)
    have hriv : m_X2_hasRivalAhead ss ks A.length = rival A q := by
      unfold m_X2_hasRivalAhead rival
      rw [c1, c4, (mask_dig q.2 hk19).2, hsA, hsA, hsA, hsA]
      cases flk q.2 <;> cases hasS 45 A <;> cases hasS 43 A <;> rfl
    have hw2 := wdN_le q.1.1
    have hw3 : wdN q.1.1 * q.1.2.1 ≤ 2 * 9999 := Nat.mul_le_mul hw2 n2
    have hd3 : dgs A q q.1.2.1 ≤ 9999 := by
      unfold dgs; split
      · omega
      · split
        · split <;> omega
        · omega
    have hlt : ¬ Q.length ≤ A.length := by rw [hQ, List.length_append, List.length_cons]; omega
    rw [m_X2_firstMisplaced_L10, if_neg hlt, c1, c2, c3, c4, c5, isKind_eq hk19, if_neg (by decide), hx q.2 hk19, hriv, nI_clamp (by omega), holds_and, hx q.2 hk19, wd_sc, nI_add, nI_add]
    show _ = fmI (if okq A d w q then fm (A ++ [q]) (d + dgs A q q.1.2.1) (w + wdN q.1.1 * q.1.2.1) S else some q.1.2.2)
    have e1 : (nI q.1.2.1 ≤ 1) ↔ q.1.2.1 ≤ 1 := nI_leI (a := q.1.2.1) (b := 1) (by omega) (by omega)
    have e2 : (31 < nI (d + dgs A q q.1.2.1)) ↔ 31 < d + dgs A q q.1.2.1 := nI_ltI (a := 31) (by omega) (by omega)
    have e3 : (nI (w + wdN q.1.1 * q.1.2.1) ≤ 9999) ↔ w + wdN q.1.1 * q.1.2.1 ≤ 9999 := nI_leI (b := 9999) (by omega) (by omega)
    have tail : d + dgs A q q.1.2.1 ≤ 31 → w + wdN q.1.1 * q.1.2.1 ≤ 9999 → m_X2_firstMisplaced_L10 ss ts ps ks ds Q.length k (A.length + 1) (x1 &&& tbL.getD q.2 0) (nI (d + dgs A q q.1.2.1)) (nI (w + wdN q.1.1 * q.1.2.1)) = fmI (fm (A ++ [q]) (d + dgs A q q.1.2.1) (w + wdN q.1.1 * q.1.2.1) S) := fun h1 h2 => by
      have := ih (A ++ [q]) k (x1 &&& tbL.getD q.2 0) (d + dgs A q q.1.2.1) (w + wdN q.1.1 * q.1.2.1) (by rw [hQ, List.append_assoc]; rfl) (fun b hb => by
        rw [holds_and, hx b hb, List.all_append]
        show _ = (A.all (fun a => al a.2 b) && (al q.2 b && true))
        rw [Bool.and_true]; rfl) h1 h2 (by omega)
      rw [List.length_append] at this
      exact this
    by_cases g1 : ¬ A.all (fun a => al a.2 q.2) = true
    · rw [if_pos (Bool.eq_false_iff.mpr g1), if_neg (show ¬ okq A d w q from fun h => g1 (okq_e h).1)]; rfl
    replace g1 := Classical.not_not.mp g1
    rw [g1, if_neg (by decide), Bool.true_and]
    have hal : m_X4_holds (tbL.getD q.2 0) (nI q.2) = al q.2 q.2 := rfl
    rw [hal]
    by_cases g2 : 1 < q.1.2.1 ∧ ¬ al q.2 q.2 = true
    · rw [if_neg (show ¬ nI q.1.2.1 ≤ 1 from fun h => by have := e1.mp h; omega), if_pos (Bool.eq_false_iff.mpr g2.2), if_neg (show ¬ okq A d w q from fun h => g2.2 ((okq_e h).2.1 g2.1))]; rfl
    have g2' : 1 < q.1.2.1 → al q.2 q.2 = true := fun h => Classical.byContradiction (fun h2 => g2 ⟨h, h2⟩)
    by_cases g3 : ¬ rival A q = false
    · rw [if_neg g3, if_neg (show ¬ okq A d w q from fun h => g3 (okq_e h).2.2.1)]
      split
      · rfl
      · split <;> rfl
    replace g3 := Classical.not_not.mp g3
    rw [g3, if_pos rfl]
    by_cases g4 : 31 < d + dgs A q q.1.2.1
    · rw [if_neg (show ¬ okq A d w q from fun h => by have := (okq_e h).2.2.2.1; omega), if_pos (e2.mpr g4)]
      split
      · rfl
      · split <;> rfl
    rw [if_neg (show ¬ 31 < nI (d + dgs A q q.1.2.1) from fun h => g4 (e2.mp h))]
    by_cases g5 : w + wdN q.1.1 * q.1.2.1 ≤ 9999
    · rw [if_pos (e3.mpr g5), tail (by omega) g5, if_pos (show okq A d w q from okq_m ⟨g1, g2', g3, by omega, g5⟩)]
      by_cases g6 : q.1.2.1 ≤ 1
      · rw [if_pos (e1.mpr g6)]
      · rw [if_neg (fun h => g6 (e1.mp h)), g2' (by omega), if_neg (by decide)]
    · rw [if_neg (show ¬ nI (w + wdN q.1.1 * q.1.2.1) ≤ 9999 from fun h => g5 (e3.mp h)), if_neg (show ¬ okq A d w q from fun h => g5 (okq_e h).2.2.2.2)]
      split
      · rfl
      · split <;> rfl
theorem fm_class_eq {R : List Run} {ss ts ps ks ds : Nat → Int32} (hO : OKR R) (hC : CR R ss ts ps) : m_X2_firstMisplaced ss ts ps (m_X2_findKinds ss ts ks R.length) (m_X2_findDigits ss ts (m_X2_findKinds ss ts ks R.length) ds R.length) R.length = fmI (fm [] 0 0 (anR R)) := by
  have hlen : (anR R).length = R.length := ann_len (mny R) R false true true
  have := fm_class (CQ_of (ks := ks) (ds := ds) hO hC) (ann_kok (mny R) R false true true hO.2) (anR R) [] (R.length + 1) 524287 0 0 rfl (by decide +kernel) (by omega) (by omega) (by omega)
  rw [hlen] at this
  exact this
