/-! the mathematics, 5: the kinds of the runs and of their signs -/
def bN (b : Bool) : Nat := if b = true then 1 else 0
def kd (s : Int32) (many beh bare fst : Bool) : Nat := if s = 36 then (if many = true then 10 + bN beh else 5) else (if s = 42 then 6 + bN beh else (if s = 43 then (if many = true then 8 + bN beh else (if fst = true then 3 else 4)) else (if s = 44 then 1 else (if s = 45 then (if many = true then 8 + bN beh else (if fst = true then 3 else 4)) else (if s = 46 then 2 else (if s = 57 then 12 else (if s = 65 then 13 else (if s = 67 then 4 else (if s = 68 then 4 else (if s = 78 then 18 else (if s = 80 then (if bare = true then 16 else 17) else (if s = 83 then 14 else (if s = 86 then 15 else (if s = 88 then 13 else (if s = 90 then 6 + bN beh else 0)))))))))))))))
def behN (beh : Bool) (k : Nat) : Bool := beh || (k == 2 || k == 15 || k == 16)
def bareN (bare : Bool) (k : Nat) : Bool := bare && (k == 3 || k == 5 || k == 14 || k == 15 || k == 16)
def dup (s : Int32) : Bool := s == 36 || s == 43 || s == 45
def kG (sg : Int32) (one b p f : Bool) : Int32 := if sg = 36 then (if one = false then (10 + (bI b)) else 5) else (if sg = 42 then (6 + (bI b)) else (if sg = 43 then (if one = false then (8 + (bI b)) else (if f = true then 3 else 4)) else (if sg = 44 then 1 else (if sg = 45 then (if one = false then (8 + (bI b)) else (if f = true then 3 else 4)) else (if sg = 46 then 2 else (if sg = 57 then 12 else (if sg = 65 then 13 else (if sg = 67 then 4 else (if sg = 68 then 4 else (if sg = 78 then 18 else (if sg = 80 then (if p = true then 16 else 17) else (if sg = 83 then 14 else (if sg = 86 then 15 else (if sg = 88 then 13 else (if sg = 90 then (6 + (bI b)) else 0)))))))))))))))
theorem kG_eq (sg : Int32) (one : Bool) (ka : Int32) : m_X2_kindOf sg one ka = kG sg one (m_X2_kindOf_j12_s0 ka) (decide (ka &&& (-114729) = 0)) (decide (ka = 0)) := by
  unfold m_X2_kindOf kG
  simp only [decide_eq_true_eq]
theorem kG_kd : ∀ k ∈ vsL, ∀ one b p f : Bool, kG (nI k) one b p f = nI (kd (nI k) (!one) b p f) := by decide +kernel
theorem kd_lt : ∀ k ∈ vsL, ∀ m b p f : Bool, kd (nI k) m b p f < 19 := by decide +kernel
theorem kd_idem : ∀ k ∈ vsL, ∀ m b p f : Bool, (dup (nI k) = true → m = true) → kd (nI k) m (behN b (kd (nI k) m b p f)) (bareN p (kd (nI k) m b p f)) false = kd (nI k) m b p f ∧ behN (behN b (kd (nI k) m b p f)) (kd (nI k) m b p f) = behN b (kd (nI k) m b p f) ∧ bareN (bareN p (kd (nI k) m b p f)) (kd (nI k) m b p f) = bareN p (kd (nI k) m b p f) := by decide +kernel
theorem kd_dup : ∀ k ∈ vsL, ∀ m m' b p f : Bool, dup (nI k) = false → kd (nI k) m b p f = kd (nI k) m' b p f := by decide +kernel
/-- the class's set of kinds -/
def KAr (ka : Int32) (beh bare fst : Bool) : Prop := m_X2_kindOf_j12_s0 ka = beh ∧ decide (ka &&& (-114729) = 0) = bare ∧ decide (ka = 0) = fst
theorem i32_dist (a b c : Int32) : (a ||| b) &&& c = (a &&& c) ||| (b &&& c) := by
  rw [← Int32.toBitVec_inj]
  simp only [Int32.toBitVec_and, Int32.toBitVec_or, BitVec.and_or_distrib_right]
theorem ka_bits : ∀ k, k < 19 → (((1 : Int32) <<< (nI k &&& 31)) &&& 98308 = 0 ↔ ¬ (k == 2 || k == 15 || k == 16) = true) ∧ (((1 : Int32) <<< (nI k &&& 31)) &&& (-114729) = 0 ↔ (k == 3 || k == 5 || k == 14 || k == 15 || k == 16) = true) ∧ ¬ ((1 : Int32) <<< (nI k &&& 31)) = 0 := by decide +kernel
theorem KAr_step {ka : Int32} {beh bare fst : Bool} (h : KAr ka beh bare fst) {k : Nat} (hk : k < 19) : KAr (ka ||| (1 <<< (nI k &&& 31))) (behN beh k) (bareN bare k) false := by
  obtain ⟨h1, h2, h3⟩ := h
  obtain ⟨b1, b2, b3⟩ := ka_bits k hk
  refine ⟨?_, ?_, ?_⟩
  · rw [← h1]
    unfold m_X2_kindOf_j12_s0 behN
    rw [i32_dist]
    by_cases c1 : ka &&& 98308 = 0
    · rw [if_pos c1]
      by_cases c2 : ((1 : Int32) <<< (nI k &&& 31)) &&& 98308 = 0
      · rw [if_pos (Int32.or_eq_zero_iff.mpr ⟨c1, c2⟩)]
        have := b1.mp c2
        cases hq : (k == 2 || k == 15 || k == 16) with
        | true => exact absurd hq this
        | false => rfl
      · rw [if_neg (fun q => c2 (Int32.or_eq_zero_iff.mp q).2)]
        cases hq : (k == 2 || k == 15 || k == 16) with
        | true => rfl
        | false => exact absurd (b1.mpr (by rw [hq]; decide)) c2
    · rw [if_neg c1, if_neg (fun q => c1 (Int32.or_eq_zero_iff.mp q).1)]; rfl
  · rw [← h2]
    unfold bareN
    rw [i32_dist]
    by_cases c1 : ka &&& (-114729) = 0
    · rw [decide_eq_true c1, Bool.true_and]
      by_cases c2 : ((1 : Int32) <<< (nI k &&& 31)) &&& (-114729) = 0
      · rw [decide_eq_true (Int32.or_eq_zero_iff.mpr ⟨c1, c2⟩), b2.mp c2]
      · rw [decide_eq_false (fun q => c2 (Int32.or_eq_zero_iff.mp q).2)]
        cases hq : (k == 3 || k == 5 || k == 14 || k == 15 || k == 16) with
        | true => exact absurd (b2.mpr hq) c2
        | false => rfl
    · rw [decide_eq_false c1, Bool.false_and, decide_eq_false (fun q => c1 (Int32.or_eq_zero_iff.mp q).1)]
  · exact decide_eq_false (fun q => b3 (Int32.or_eq_zero_iff.mp q).2)
theorem KAr_0 : KAr 0 false true true := ⟨by decide, by decide, by decide⟩
/-- a run with its kind -/
abbrev KRun : Type := Run × Nat
def mny (R0 : List Run) (s : Int32) : Bool := if s = 43 then decide (1 < sumT 43 R0) else (if s = 45 then decide (1 < sumT 45 R0) else decide (1 < sumT 36 R0))
def ann (mn : Int32 → Bool) : Bool → Bool → Bool → List Run → List KRun
  | _, _, _, [] => []
  | beh, bare, fst, r :: R => (r, kd r.1 (mn r.1) beh bare fst) :: ann mn (behN beh (kd r.1 (mn r.1) beh bare fst)) (bareN bare (kd r.1 (mn r.1) beh bare fst)) false R
def anR (R : List Run) : List KRun := ann (mny R) false true true R
theorem ann_len (mn : Int32 → Bool) : ∀ R beh bare fst, (ann mn beh bare fst R).length = R.length := by
  intro R
  induction R with
  | nil => intro _ _ _; rfl
  | cons r R ih => intro _ _ _; show (ann mn _ _ _ R).length + 1 = R.length + 1; rw [ih]
theorem ann_map (mn : Int32 → Bool) : ∀ R beh bare fst, (ann mn beh bare fst R).map (·.1) = R := by
  intro R
  induction R with
  | nil => intro _ _ _; rfl
  | cons r R ih => intro _ _ _; show r :: (ann mn _ _ _ R).map (·.1) = r :: R; rw [ih]
theorem sumT_le {s : Int32} {r : Run} : ∀ {R : List Run}, r ∈ R → r.1 = s → r.2.1 ≤ sumT s R := by
  intro R
  induction R with
  | nil => intro h; cases h
  | cons a R ih =>
    intro h e
    show r.2.1 ≤ (if a.1 = s then a.2.1 else 0) + sumT s R
    rcases List.mem_cons.mp h with q | q
    · subst q; rw [if_pos e]; omega
    · have := ih q e; omega
theorem sumT_bd {s : Int32} : ∀ {R : List Run}, (∀ r ∈ R, r.2.1 ≤ 9999) → sumT s R ≤ 9999 * R.length := by
  intro R
  induction R with
  | nil => intro _; show 0 ≤ _; omega
  | cons a R ih =>
    intro h
    have h1 := h a (List.mem_cons_self ..)
    have h2 := ih (fun r hr => h r (List.mem_cons_of_mem _ hr))
    show (if a.1 = s then a.2.1 else 0) + sumT s R ≤ 9999 * (R.length + 1)
    split <;> omega
theorem countOf_run {ss ts : Nat → Int32} {sg : Int32} {sz : Nat} : ∀ (S : List Run) k i x, (∀ t r, S[t]? = some r → ss (i + t) = r.1 ∧ ts (i + t) = nI r.2.1) → sz = i + S.length → S.length < k → m_X2_countOf_L4 ss ts sz sg k i (nI x) = nI (x + sumT sg S) := by
  intro S
  induction S with
  | nil =>
    intro k i x h hs hk
    obtain ⟨k, rfl⟩ : ∃ q, k = q + 1 := ⟨k - 1, by omega⟩
    rw [m_X2_countOf_L4, if_pos (by rw [hs]; simp)]; rfl
  | cons r S ih =>
    intro k i x h hs hk
    obtain ⟨k, rfl⟩ : ∃ q, k = q + 1 := ⟨k - 1, by omega⟩
    rw [List.length_cons] at hs hk
    obtain ⟨a1, a2⟩ := h 0 r rfl
    rw [Nat.add_zero] at a1 a2
    have e : m_X2_countOf_j37_l2 ss ts sg i (nI x) = nI (x + (if r.1 = sg then r.2.1 else 0)) := by
      unfold m_X2_countOf_j37_l2
      rw [a1, a2]
      by_cases q : r.1 = sg
      · rw [if_pos q, if_pos q, nI_add]
      · rw [if_neg q, if_neg q]; rfl
    rw [m_X2_countOf_L4, if_neg (by omega), e, ih k (i + 1) _ (fun t r' hr => by rw [show i + 1 + t = i + (t + 1) by omega]; exact h (t + 1) r' hr) (by omega) (by omega)]
    show nI (_ + sumT sg S) = nI (x + ((if r.1 = sg then r.2.1 else 0) + sumT sg S))
    rw [Nat.add_assoc]
theorem countOf_eq {ss ts ps : Nat → Int32} {sg : Int32} {R : List Run} (h : CR R ss ts ps) : m_X2_countOf ss ts R.length sg = nI (sumT sg R) := by
  have := countOf_run (ss := ss) (ts := ts) (sg := sg) (sz := R.length) R (R.length + 1) 0 0 (fun t r hr => by rw [Nat.zero_add]; exact ⟨(h t r hr).1, (h t r hr).2.1⟩) (by omega) (by omega)
  rw [Nat.zero_add] at this
  exact this
theorem findKinds_run {ss ts : Nat → Int32} {sz : Nat} {mn : Int32 → Bool} : ∀ (S : List Run) k i ka ks beh bare fst, (∀ r ∈ S, VS r.1) → (∀ t r, S[t]? = some r → ss (i + t) = r.1 ∧ (dup r.1 = true → m_X2_findKinds_j102_s0 ss ts sz (i + t) = !mn r.1)) → KAr ka beh bare fst → sz = i + S.length → S.length < k →
    (∀ j, j < i → m_X2_findKinds_L54 ss ts sz k i ka ks j = ks j) ∧ (∀ t q, (ann mn beh bare fst S)[t]? = some q → m_X2_findKinds_L54 ss ts sz k i ka ks (i + t) = nI q.2) := by
  intro S
  induction S with
  | nil =>
    intro k i ka ks beh bare fst _ _ _ hs hk
    obtain ⟨k, rfl⟩ : ∃ q, k = q + 1 := ⟨k - 1, by omega⟩
    rw [m_X2_findKinds_L54, if_pos (by rw [hs]; simp)]
    exact ⟨fun _ _ => rfl, fun t q hq => by cases hq⟩
  | cons r S ih =>
    intro k i ka ks beh bare fst hv h hKA hs hk
    obtain ⟨k, rfl⟩ : ∃ q, k = q + 1 := ⟨k - 1, by omega⟩
    rw [List.length_cons] at hs hk
    obtain ⟨a1, a2⟩ := h 0 r rfl
    rw [Nat.add_zero] at a1 a2
    have hvr := hv r (List.mem_cons_self ..)
    have hk19 : kd r.1 (mn r.1) beh bare fst < 19 := vs_fin (P := fun s => kd s (mn r.1) beh bare fst < 19) (fun k hk => kd_lt k hk _ _ _ _) hvr
    have e : m_X2_kindOf (ss i) (m_X2_findKinds_j102_s0 ss ts sz i) ka = nI (kd r.1 (mn r.1) beh bare fst) := by
      rw [a1, kG_eq, hKA.1, hKA.2.1, hKA.2.2]
      have := vs_fin (P := fun s => kG s (m_X2_findKinds_j102_s0 ss ts sz i) beh bare fst = nI (kd s (!m_X2_findKinds_j102_s0 ss ts sz i) beh bare fst)) (fun k hk => kG_kd k hk _ _ _ _) hvr
      rw [this]
      cases hd : dup r.1 with
      | true => rw [a2 hd, Bool.not_not]
      | false => rw [(vs_fin (P := fun s => ∀ m m' : Bool, dup s = false → kd s m beh bare fst = kd s m' beh bare fst) (fun k hk m m' => kd_dup k hk m m' _ _ _) hvr) _ (mn r.1) hd]
    rw [m_X2_findKinds_L54, if_neg (by omega), e, pk_us]
    obtain ⟨g1, g2⟩ := ih k (i + 1) (ka ||| (1 <<< (nI (kd r.1 (mn r.1) beh bare fst) &&& 31))) (upd ks i (nI (kd r.1 (mn r.1) beh bare fst))) _ _ _ (fun r' hr => hv r' (List.mem_cons_of_mem _ hr)) (fun t r' hr => by rw [show i + 1 + t = i + (t + 1) by omega]; exact h (t + 1) r' hr) (KAr_step hKA hk19) (by omega) (by omega)
    refine ⟨fun j hj => ?_, fun t q hq => ?_⟩
    · rw [g1 j (by omega), pk_un (by omega)]
    · cases t with
      | zero =>
        have hq' : some (r, kd r.1 (mn r.1) beh bare fst) = some q := hq
        cases hq'
        exact (g1 i (by omega)).trans pk_us
      | succ t =>
        have hq' : (ann mn (behN beh (kd r.1 (mn r.1) beh bare fst)) (bareN bare (kd r.1 (mn r.1) beh bare fst)) false S)[t]? = some q := hq
        rw [show i + (t + 1) = i + 1 + t by omega]
        exact g2 t q hq'
theorem dup_is {s : Int32} (h : dup s = true) : s = 36 ∨ s = 43 ∨ s = 45 := by
  unfold dup at h
  simp only [Bool.or_eq_true, beq_iff_eq] at h
  rcases h with (h | h) | h
  · exact Or.inl h
  · exact Or.inr (Or.inl h)
  · exact Or.inr (Or.inr h)
theorem one_mny {R : List Run} (hO : OKR R) {r : Run} (hr : r ∈ R) : (if nI (sumT r.1 R) = 1 then true else false) = !decide (1 < sumT r.1 R) := by
  have a := sumT_le hr rfl
  have b := (hO.2 r hr).1
  have d := sumT_bd (s := r.1) (R := R) (fun r hr => (hO.2 r hr).2.1)
  have d2 := hO.1
  by_cases c : sumT r.1 R = 1
  · rw [c, if_pos (by decide)]; rfl
  · rw [if_neg (show ¬ nI (sumT r.1 R) = 1 from fun q => c ((nI_eq (a := sumT r.1 R) (b := 1) (by omega) (by omega)).mp q)), decide_eq_true (by omega)]; rfl
theorem mny_dup {R : List Run} {s : Int32} (h : dup s = true) : mny R s = decide (1 < sumT s R) := by
  rcases dup_is h with rfl | rfl | rfl <;> rfl
theorem findKinds_eq {R : List Run} {ss ts ps ks : Nat → Int32} (hO : OKR R) (hC : CR R ss ts ps) : ∀ t q, (anR R)[t]? = some q → m_X2_findKinds ss ts ks R.length t = nI q.2 := by
  intro t q hq
  have := (findKinds_run (ss := ss) (ts := ts) (sz := R.length) (mn := mny R) R (R.length + 1) 0 0 ks false true true (fun r hr => (hO.2 r hr).2.2.1) (fun t r hr => ?_) KAr_0 (by omega) (by omega)).2 t q hq
  · rw [Nat.zero_add] at this; exact this
  · rw [Nat.zero_add]
    refine ⟨(hC t r hr).1, fun hd => ?_⟩
    have hm : r ∈ R := List.mem_of_getElem? hr
    rw [mny_dup hd, ← one_mny hO hm]
    unfold m_X2_findKinds_j102_s0 m_X2_findKinds_j15_s0 m_X2_findKinds_j31_s0 m_X2_findKinds_j47_s0
    rw [(hC t r hr).1, countOf_eq hC, countOf_eq hC, countOf_eq hC]
    rcases dup_is hd with e | e | e
    · rw [e, if_neg (by decide), if_neg (by decide)]
    · rw [e, if_pos rfl]
    · rw [e, if_neg (by decide), if_pos rfl]
/-- the reference's kinds -/
def rG (r : Int32) (mp mm mo f beh bare : Bool) : Int32 := if r = 80 then (if bare = false then 17 else 16) else (if r = 86 then 15 else (if r = 83 then 14 else (if r = 65 then 13 else (if r = 88 then 13 else (if r = 57 then 12 else (if r = 90 then 6 + bI beh else (if r = 42 then 6 + bI beh else (if r = 202 then (if mo = false then 5 else 10 + bI beh) else (if r = 200 then 4 else (if r = 201 then 4 else (if r = 45 then (if mm = false then (if f = true then 3 else 4) else 8 + bI beh) else (if r = 43 then (if mp = false then (if f = true then 3 else 4) else 8 + bI beh) else (if r = 46 then 2 else (if r = 44 then 1 else (if r = 66 then 0 else (if r = 48 then 0 else (if r = 47 then 0 else 18)))))))))))))))))
theorem rG_eq (rd : Nat → Int32) (pu mi ms : Int32) (i : Nat) (beh bare : Bool) : m_X5_sorts_j326_l9 rd pu mi ms i beh bare = rG (rd i) (m_X5_sorts_j13_s0 pu) (m_X5_sorts_j27_s0 mi) (m_X5_sorts_j41_s0 ms) (decide (i = 0)) beh bare := by
  have e : m_X5_sorts_j79_s0 beh = beh := by cases beh <;> rfl
  unfold m_X5_sorts_j326_l9 m_X5_sorts_j305_l9 m_X5_sorts_j294_l9 m_X5_sorts_j283_l9 m_X5_sorts_j265_l9 m_X5_sorts_j254_l9 m_X5_sorts_j233_l9 m_X5_sorts_j210_l9 m_X5_sorts_j191_l9 m_X5_sorts_j160_l9 m_X5_sorts_j129_l9 m_X5_sorts_j119_l9 m_X5_sorts_j109_l9 rG
  rw [e]
  simp only [decide_eq_true_eq]
theorem rG_kd : ∀ k ∈ vsL, ∀ mp mm mo f beh bare : Bool, rG (tau (nI k)) mp mm mo f beh bare = nI (kd (nI k) (if nI k = 43 then mp else (if nI k = 45 then mm else mo)) beh bare f) := by decide +kernel
theorem j13_eq {n : Nat} (h : n < 2 ^ 31) : (if nI n ≤ 1 then false else true) = decide (1 < n) := by
  by_cases c : 1 < n
  · rw [decide_eq_true c, if_neg (show ¬ nI n ≤ 1 from nI_ge (a := 1) (b := n) c h)]
  · rw [decide_eq_false c, if_pos (show nI n ≤ 1 from nI_le (a := n) (b := 1) (by omega) (by omega))]
theorem kd_of {R : List Run} (hO : OKR R) {rd : Nat → Int32} {i : Nat} {s : Int32} (hv : VS s) (h : rd i = tau s) (beh bare : Bool) : m_X5_sorts_j326_l9 rd (nI (sumT 43 R)) (nI (sumT 45 R)) (nI (sumT 36 R)) i beh bare = nI (kd s (mny R s) beh bare (decide (i = 0))) := by
  have d := fun s => sumT_bd (s := s) (R := R) (fun r hr => (hO.2 r hr).2.1)
  have d2 := hO.1
  have d3 := d 43
  have d4 := d 45
  have d5 := d 36
  rw [rG_eq, h]
  have e1 : m_X5_sorts_j13_s0 (nI (sumT 43 R)) = decide (1 < sumT 43 R) := j13_eq (by omega)
  have e2 : m_X5_sorts_j27_s0 (nI (sumT 45 R)) = decide (1 < sumT 45 R) := j13_eq (by omega)
  have e3 : m_X5_sorts_j41_s0 (nI (sumT 36 R)) = decide (1 < sumT 36 R) := j13_eq (by omega)
  rw [e1, e2, e3]
  exact vs_fin (P := fun s => rG (tau s) (decide (1 < sumT 43 R)) (decide (1 < sumT 45 R)) (decide (1 < sumT 36 R)) (decide (i = 0)) beh bare = nI (kd s (if s = 43 then decide (1 < sumT 43 R) else (if s = 45 then decide (1 < sumT 45 R) else decide (1 < sumT 36 R))) beh bare (decide (i = 0)))) (fun k hk => rG_kd k hk _ _ _ _ _ _) hv
theorem beh_kd : ∀ k, k < 19 → ∀ b : Bool, (if b = false then (if nI k = 2 then true else (if nI k = 15 then true else (if nI k = 16 then true else false))) else true) = behN b k := by decide +kernel
theorem bare_kd : ∀ k, k < 19 → ∀ b : Bool, (if b = false then false else (if nI k = 3 then true else (if nI k = 5 then true else (if nI k ≤ 13 then false else (if 17 ≤ nI k then false else true))))) = bareN b k := by decide +kernel
/-- kinds of every sign -/
def exk : List KRun → List Nat
  | [] => []
  | q :: Q => List.replicate q.1.2.1 q.2 ++ exk Q
section SRT
variable {R : List Run} {rd : Nat → Int32} {my : Nat}
theorem sorts_step (hO : OKR R) {s : Int32} (hv : VS s) {k i : Nat} {beh bare : Bool} {kk : Nat → Int32} (hi : i < my) (h : rd i = tau s) : m_X5_sorts_L51 rd my (nI (sumT 43 R)) (nI (sumT 45 R)) (nI (sumT 36 R)) (k + 1) i beh bare kk = m_X5_sorts_L51 rd my (nI (sumT 43 R)) (nI (sumT 45 R)) (nI (sumT 36 R)) k (i + 1) (behN beh (kd s (mny R s) beh bare (decide (i = 0)))) (bareN bare (kd s (mny R s) beh bare (decide (i = 0)))) (upd kk i (nI (kd s (mny R s) beh bare (decide (i = 0))))) := by
  have hk : kd s (mny R s) beh bare (decide (i = 0)) < 19 := vs_fin (P := fun s' => kd s' (mny R s) beh bare (decide (i = 0)) < 19) (fun k hk => kd_lt k hk _ _ _ _) hv
  rw [m_X5_sorts_L51, if_neg (by omega)]
  unfold m_X5_sorts_j365_s0 m_X5_sorts_j403_s0
  rw [kd_of hO hv h, beh_kd _ hk, bare_kd _ hk]
theorem sorts_run (hO : OKR R) {s : Int32} (hv : VS s) : ∀ n k i beh bare kk K, i + n ≤ my → n < k → 1 ≤ i → (∀ t, t < n → rd (i + t) = tau s) → kd s (mny R s) beh bare false = K → behN beh K = beh → bareN bare K = bare →
    ∃ kk2, m_X5_sorts_L51 rd my (nI (sumT 43 R)) (nI (sumT 45 R)) (nI (sumT 36 R)) k i beh bare kk = m_X5_sorts_L51 rd my (nI (sumT 43 R)) (nI (sumT 45 R)) (nI (sumT 36 R)) (k - n) (i + n) beh bare kk2 ∧ (∀ j, j < i → kk2 j = kk j) ∧ (∀ t, t < n → kk2 (i + t) = nI K) := by
  intro n
  induction n with
  | zero => intro k i beh bare kk K _ _ _ _ _ _ _; exact ⟨kk, rfl, fun _ _ => rfl, fun t ht => absurd ht (by omega)⟩
  | succ n ih =>
    intro k i beh bare kk K h1 h2 h3 h4 h5 h6 h7
    obtain ⟨k, rfl⟩ : ∃ q, k = q + 1 := ⟨k - 1, by omega⟩
    have h0 : decide (i = 0) = false := decide_eq_false (by omega)
    rw [sorts_step (i := i) (my := my) hO hv (by omega) (h4 0 (by omega)), h0, h5, h6, h7]
    obtain ⟨kk2, g1, g2, g3⟩ := ih k (i + 1) beh bare (upd kk i (nI K)) K (by omega) (by omega) (by omega) (fun t ht => by rw [show i + 1 + t = i + (t + 1) by omega]; exact h4 (t + 1) (by omega)) h5 h6 h7
    refine ⟨kk2, ?_, fun j hj => ?_, fun t ht => ?_⟩
    · rw [g1, show k + 1 - (n + 1) = k - n by omega, show i + 1 + n = i + (n + 1) by omega]
    · rw [g2 j (by omega), pk_un (by omega)]
    · cases t with
      | zero => exact (g2 i (by omega)).trans pk_us
      | succ t => rw [show i + (t + 1) = i + 1 + t by omega]; exact g3 t (by omega)
/-- one run of the reference's sorting -/
theorem sorts_one (hO : OKR R) {r : Run} (hr : r ∈ R) {k i n : Nat} {beh bare : Bool} {kk : Nat → Int32} (hn1 : 1 ≤ n) (hn : n ≤ r.2.1) (h1 : i + n ≤ my) (h2 : n < k) (h4 : ∀ t, t < n → rd (i + t) = tau r.1) :
    ∃ kk2, m_X5_sorts_L51 rd my (nI (sumT 43 R)) (nI (sumT 45 R)) (nI (sumT 36 R)) k i beh bare kk = m_X5_sorts_L51 rd my (nI (sumT 43 R)) (nI (sumT 45 R)) (nI (sumT 36 R)) (k - n) (i + n) (behN beh (kd r.1 (mny R r.1) beh bare (decide (i = 0)))) (bareN bare (kd r.1 (mny R r.1) beh bare (decide (i = 0)))) kk2 ∧ (∀ j, j < i → kk2 j = kk j) ∧ (∀ t, t < n → kk2 (i + t) = nI (kd r.1 (mny R r.1) beh bare (decide (i = 0)))) := by
  obtain ⟨o1, o2, hv, -⟩ := hO.2 r hr
  obtain ⟨k, rfl⟩ : ∃ q, k = q + 1 := ⟨k - 1, by omega⟩
  rw [sorts_step (i := i) (my := my) hO hv (by omega) (h4 0 (by omega))]
  by_cases n1 : n = 1
  · rw [n1]
    exact ⟨_, rfl, fun j hj => pk_un (by omega), fun t ht => by rw [show t = 0 by omega]; exact pk_us⟩
  · have hd : dup r.1 = true → mny R r.1 = true := fun hd => by
      rw [mny_dup hd]
      have := sumT_le hr rfl
      exact decide_eq_true (by omega)
    obtain ⟨e1, e2, e3⟩ := vs_fin (P := fun s => ∀ m b p f : Bool, (dup s = true → m = true) → kd s m (behN b (kd s m b p f)) (bareN p (kd s m b p f)) false = kd s m b p f ∧ behN (behN b (kd s m b p f)) (kd s m b p f) = behN b (kd s m b p f) ∧ bareN (bareN p (kd s m b p f)) (kd s m b p f) = bareN p (kd s m b p f)) (fun k hk => kd_idem k hk) hv (mny R r.1) beh bare (decide (i = 0)) hd
    obtain ⟨kk2, g1, g2, g3⟩ := sorts_run hO hv (my := my) (rd := rd) (n - 1) k (i + 1) _ _ (upd kk i (nI (kd r.1 (mny R r.1) beh bare (decide (i = 0))))) _ (by omega) (by omega) (by omega) (fun t ht => by rw [show i + 1 + t = i + (t + 1) by omega]; exact h4 (t + 1) (by omega)) e1 e2 e3
    refine ⟨kk2, ?_, fun j hj => ?_, fun t ht => ?_⟩
    · rw [g1, show k + 1 - n = k - (n - 1) by omega, show i + 1 + (n - 1) = i + n by omega]
    · rw [g2 j (by omega), pk_un (by omega)]
    · cases t with
      | zero => exact (g2 i (by omega)).trans pk_us
      | succ t => rw [show i + (t + 1) = i + 1 + t by omega]; exact g3 t (by omega)
theorem sorts_all (hO : OKR R) : ∀ (S : List Run) k i beh bare kk, (∀ r ∈ S, r ∈ R) → (∀ t q, (ex S)[t]? = some q → i + t < my → rd (i + t) = q.1) → i ≤ my → my ≤ i + (ex S).length → my < i + k →
    (∀ j, j < i → m_X5_sorts_L51 rd my (nI (sumT 43 R)) (nI (sumT 45 R)) (nI (sumT 36 R)) k i beh bare kk j = kk j) ∧ (∀ t K, i + t < my → (exk (ann (mny R) beh bare (decide (i = 0)) S))[t]? = some K → m_X5_sorts_L51 rd my (nI (sumT 43 R)) (nI (sumT 45 R)) (nI (sumT 36 R)) k i beh bare kk (i + t) = nI K) := by
  intro S
  induction S with
  | nil =>
    intro k i beh bare kk _ _ h1 h2 h3
    obtain ⟨k, rfl⟩ : ∃ q, k = q + 1 := ⟨k - 1, by omega⟩
    have : (ex ([] : List Run)).length = 0 := rfl
    rw [m_X5_sorts_L51, if_pos (by omega)]
    exact ⟨fun _ _ => rfl, fun t K ht => absurd ht (by omega)⟩
  | cons r S ih =>
    intro k i beh bare kk hS hrd h1 h2 h3
    have hr := hS r (List.mem_cons_self ..)
    obtain ⟨o1, o2, hv, -⟩ := hO.2 r hr
    have hl : (ex (r :: S)).length = r.2.1 + (ex S).length := by
      show (List.replicate r.2.1 (tau r.1, r.2.2) ++ ex S).length = _
      rw [List.length_append, List.length_replicate]
    by_cases c : i = my
    · obtain ⟨k, rfl⟩ : ∃ q, k = q + 1 := ⟨k - 1, by omega⟩
      rw [m_X5_sorts_L51, if_pos (by omega)]
      exact ⟨fun _ _ => rfl, fun t K ht => absurd ht (by omega)⟩
    have h4 : ∀ t, t < min r.2.1 (my - i) → rd (i + t) = tau r.1 := fun t ht => by
      have e : (ex (r :: S))[t]? = some (tau r.1, r.2.2) := by
        show (List.replicate r.2.1 (tau r.1, r.2.2) ++ ex S)[t]? = _
        rw [List.getElem?_append_left (by rw [List.length_replicate]; omega), List.getElem?_replicate, if_pos (by omega)]
      exact hrd t _ e (by omega)
    obtain ⟨kk2, g1, g2, g3⟩ := sorts_one (my := my) (rd := rd) (k := k) (i := i) (n := min r.2.1 (my - i)) (beh := beh) (bare := bare) (kk := kk) hO hr (by omega) (by omega) (by omega) (by omega) h4
    rw [g1]
    by_cases cut : i + r.2.1 ≤ my
    · rw [show min r.2.1 (my - i) = r.2.1 by omega] at *
      obtain ⟨f1, f2⟩ := ih (k - r.2.1) (i + r.2.1) _ _ kk2 (fun r' h => hS r' (List.mem_cons_of_mem _ h)) (fun t q hq ht => by
        have e : (ex (r :: S))[r.2.1 + t]? = some q := by
          show (List.replicate r.2.1 (tau r.1, r.2.2) ++ ex S)[r.2.1 + t]? = _
          rw [List.getElem?_append_right (by rw [List.length_replicate]; omega), List.length_replicate, show r.2.1 + t - r.2.1 = t by omega]; exact hq
        rw [show i + r.2.1 + t = i + (r.2.1 + t) by omega] at ht ⊢
        exact hrd _ _ e ht) cut (by omega) (by omega)
      refine ⟨fun j hj => by rw [f1 j (by omega), g2 j hj], fun t K ht hK => ?_⟩
      have hK' : (List.replicate r.2.1 (kd r.1 (mny R r.1) beh bare (decide (i = 0))) ++ exk (ann (mny R) (behN beh (kd r.1 (mny R r.1) beh bare (decide (i = 0)))) (bareN bare (kd r.1 (mny R r.1) beh bare (decide (i = 0)))) false S))[t]? = some K := hK
      by_cases d : t < r.2.1
      · rw [List.getElem?_append_left (by rw [List.length_replicate]; omega), List.getElem?_replicate, if_pos d] at hK'
        cases hK'
        rw [f1 (i + t) (by omega), g3 t d]
      · rw [List.getElem?_append_right (by rw [List.length_replicate]; omega), List.length_replicate] at hK'
        rw [show i + t = i + r.2.1 + (t - r.2.1) by omega]
        refine f2 (t - r.2.1) K (by omega) ?_
        rw [show decide (i + r.2.1 = 0) = false from decide_eq_false (by omega)]
        exact hK'
    · rw [show min r.2.1 (my - i) = my - i by omega] at *
      have e0 : m_X5_sorts_L51 rd my (nI (sumT 43 R)) (nI (sumT 45 R)) (nI (sumT 36 R)) (k - (my - i)) (i + (my - i)) (behN beh (kd r.1 (mny R r.1) beh bare (decide (i = 0)))) (bareN bare (kd r.1 (mny R r.1) beh bare (decide (i = 0)))) kk2 = kk2 := by
        rw [show k - (my - i) = (k - (my - i) - 1) + 1 by omega, m_X5_sorts_L51, if_pos (by omega)]
      rw [e0]
      refine ⟨g2, fun t K ht hK => ?_⟩
      have hK' : (List.replicate r.2.1 (kd r.1 (mny R r.1) beh bare (decide (i = 0))) ++ exk (ann (mny R) (behN beh (kd r.1 (mny R r.1) beh bare (decide (i = 0)))) (bareN bare (kd r.1 (mny R r.1) beh bare (decide (i = 0)))) false S))[t]? = some K := hK
      rw [List.getElem?_append_left (by rw [List.length_replicate]; omega), List.getElem?_replicate, if_pos (by omega)] at hK'
      cases hK'
      exact g3 t (by omega)
theorem sorts_eq {pl : Nat → Int32} {pu mi ms : Int32} {kk : Nat → Int32} (hO : OKR R) (hR : RR R rd pl my pu mi ms) : ∀ j K, j < my → (exk (anR R))[j]? = some K → m_X5_sorts rd kk my pu mi ms j = nI K := by
  obtain ⟨a1, a2, a3, a4, a5⟩ := hR
  subst a3 a4 a5
  intro j K hj hK
  have := (sorts_all (rd := rd) (my := my) hO R (my + 1) 0 false true kk (fun _ h => h) (fun t q hq ht => by rw [Nat.zero_add] at ht ⊢; exact (a2 t q ht hq).1) (by omega) (by rw [a1]; omega) (by omega)).2 j K (by omega) hK
  rw [Nat.zero_add] at this
  exact this
end SRT
