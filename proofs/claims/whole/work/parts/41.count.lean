/-! the mathematics, 2: counts -/
def dig (x : Int32) : Prop := ¬ x < 48 ∧ ¬ 57 < x
theorem dig_nat {x : Int32} (h : dig x) : ∃ k : Nat, 48 ≤ k ∧ k ≤ 57 ∧ x = nI k := by
  have a : ¬ x < 1 := fun q => h.1 (Int32.lt_iff_toInt_lt.mpr (by have := Int32.lt_iff_toInt_lt.mp q; rw [show (1 : Int32).toInt = 1 from by decide] at this; rw [show (48 : Int32).toInt = 48 from by decide]; omega))
  have b : ¬ 126 < x := fun q => h.2 (Int32.lt_iff_toInt_lt.mpr (by have := Int32.lt_iff_toInt_lt.mp q; rw [show (126 : Int32).toInt = 126 from by decide] at this; rw [show (57 : Int32).toInt = 57 from by decide]; omega))
  obtain ⟨k, hk, rfl⟩ := in127 a b
  refine ⟨k, ?_, ?_, rfl⟩
  · rcases Nat.lt_or_ge k 48 with q | q
    · exact absurd (nI_lt (a := k) (b := 48) q (by omega)) h.1
    · exact q
  · rcases Nat.lt_or_ge 57 k with q | q
    · exact absurd (nI_lt (a := 57) (b := k) q (by omega)) h.2
    · exact q
theorem nrm_dig {b : Int32} (h : dig b) : nrm b = b := by
  obtain ⟨k, h1, h2, rfl⟩ := dig_nat h
  exact nrm_in (nI_nlt (a := k) (b := 1) (by omega) (by omega)) (nI_nlt (a := 126) (b := k) (by omega) (by omega))
theorem nrm_dig_iff {b : Int32} : dig (nrm b) ↔ dig b := by
  constructor
  · intro h
    by_cases h1 : b < 1 ∨ 126 < b
    · rw [nrm_out h1] at h; exact absurd (show (0 : Int32) < 48 by decide) h.1
    · rw [nrm_in (fun q => h1 (Or.inl q)) (fun q => h1 (Or.inr q))] at h; exact h
  · intro h; rw [nrm_dig h]; exact h
theorem nrm_is {b : Int32} {q : Nat} (h1 : 1 ≤ q) (h2 : q ≤ 126) : nrm b = nI q ↔ b = nI q := by
  by_cases hb : b < 1 ∨ 126 < b
  · rw [nrm_out hb]
    constructor
    · intro h; exact absurd h.symm (nI_ne0 (by omega) (by omega))
    · intro h
      subst h
      rcases hb with hb | hb
      · exact absurd hb (nI_nlt (a := q) (b := 1) (by omega) (by omega))
      · exact absurd hb (nI_nlt (a := 126) (b := q) (by omega) (by omega))
  · rw [nrm_in (fun q => hb (Or.inl q)) (fun q => hb (Or.inr q))]
/-- the number that d digits make -/
def vN (f : Nat → Nat) : Nat → Nat
  | 0 => 0
  | t + 1 => vN f t * 10 + (f t - 48)
theorem vN_lt {f : Nat → Nat} : ∀ d, (∀ t, t < d → 48 ≤ f t ∧ f t ≤ 57) → vN f d < 10 ^ d := by
  intro d
  induction d with
  | zero => intro _; show 0 < 1; omega
  | succ d ih =>
    intro h
    have a := ih (fun t ht => h t (by omega))
    have b := h d (by omega)
    show vN f d * 10 + (f d - 48) < 10 ^ (d + 1)
    rw [Nat.pow_succ]; omega
theorem v_step {v k : Nat} (h1 : 48 ≤ k) : (nI v * 10 + nI k) - 48 = nI (v * 10 + (k - 48)) := by
  show (nI v * nI 10 + nI k) - nI 48 = _
  rw [pk_mul, nI_add, pk_sub (by omega)]
  congr 1; omega
theorem v_step2 {v k : Nat} (h1 : 48 ≤ k) : (10 * nI v + nI k) - 48 = nI (v * 10 + (k - 48)) := by
  show (nI 10 * nI v + nI k) - nI 48 = _
  rw [pk_mul, nI_add, pk_sub (by omega)]
  congr 1; omega
section CNT
variable {cs tx : Nat → Int32} {len op : Nat}
/-- how many digits stand behind op: d of them, at most five -/
theorem digs (f : Nat → Int32) (op : Nat) : ∃ d, d ≤ 5 ∧ (∀ t, t < d → dig (f (op + 1 + t))) ∧ (d = 5 ∨ ¬ dig (f (op + 1 + d))) := by
  have key : ∀ m, ∃ d, d ≤ m ∧ (∀ t, t < d → dig (f (op + 1 + t))) ∧ (d = m ∨ ¬ dig (f (op + 1 + d))) := by
    intro m
    induction m with
    | zero => exact ⟨0, Nat.le_refl _, fun t h => by omega, Or.inl rfl⟩
    | succ m ih =>
      obtain ⟨d, h1, h2, h3⟩ := ih
      rcases h3 with h3 | h3
      · subst h3
        by_cases q : dig (f (op + 1 + d))
        · exact ⟨d + 1, Nat.le_refl _, fun t ht => by
            by_cases e : t = d
            · subst e; exact q
            · exact h2 t (by omega), Or.inl rfl⟩
        · exact ⟨d, by omega, h2, Or.inr q⟩
      · exact ⟨d, by omega, h2, Or.inr h3⟩
  exact key 5
theorem cl_skip (hT : TX cs tx len) (hlen : len ≤ 80) (hop : op ≤ 100) : ∀ d k i, (∀ t, t < d → dig (m_X5_at0 tx len (i + t))) → i + d ≤ op + 6 → m_X3_closeOf_L4 cs len op (k + d) i = m_X3_closeOf_L4 cs len op k (i + d) := by
  intro d
  induction d with
  | zero => intro k i _ _; rfl
  | succ d ih =>
    intro k i h1 h2
    have hd := h1 0 (by omega)
    rw [Nat.add_zero] at hd
    have e : m_X3_characterAt cs len (nI i) = m_X5_at0 tx len i := by rw [ca_nrm hT hlen (by omega), nrm_dig hd]
    show m_X3_closeOf_L4 cs len op ((k + d) + 1) i = _
    rw [m_X3_closeOf_L4, e, if_neg (by omega), if_neg (fun q => hd.1 (by rw [q]; decide)), if_neg hd.1, if_pos (Int32.not_lt.mp hd.2), ih k (i + 1) (fun t ht => by have := h1 (t + 1) (by omega); rw [show i + (t + 1) = i + 1 + t by omega] at this; exact this) (by omega)]
    congr 1; omega
theorem nb_run (hT : TX cs tx len) (hlen : len ≤ 80) {f : Nat → Nat} {o : Nat} (ho : o ≤ 150) : ∀ d t k, (∀ u, u < t + d → 48 ≤ f u ∧ f u ≤ 57 ∧ m_X5_at0 tx len (o + u) = nI (f u)) → t + d ≤ 10 → m_X3_numberBetween_L7 cs len (nI (o + t + d)) (k + d + 1) (o + t) (nI (vN f t)) = nI (vN f (t + d)) := by
  intro d
  induction d with
  | zero =>
    intro t k h1 h2
    rw [m_X3_numberBetween_L7, if_pos (nI_le (by omega) (by omega))]
    rfl
  | succ d ih =>
    intro t k h1 h2
    obtain ⟨f1, f2, f3⟩ := h1 t (by omega)
    have hd : dig (m_X5_at0 tx len (o + t)) := by
      rw [f3]; exact ⟨nI_nlt (a := f t) (b := 48) f1 (by omega), nI_nlt (a := 57) (b := f t) f2 (by omega)⟩
    have e : m_X3_characterAt cs len (nI (o + t)) = nI (f t) := by rw [ca_nrm hT hlen (by omega), nrm_dig hd, f3]
    show m_X3_numberBetween_L7 cs len (nI (o + t + (d + 1))) ((k + d + 1) + 1) (o + t) (nI (vN f t)) = _
    rw [m_X3_numberBetween_L7, if_neg (nI_ge (by omega) (by omega)), e, v_step f1]
    have := ih (t + 1) k (fun u hu => h1 u (by omega)) (by omega)
    rw [show o + (t + 1) + d = o + t + (d + 1) by omega, show o + (t + 1) = o + t + 1 by omega, show t + 1 + d = t + (d + 1) by omega] at this
    exact this
theorem ct_run {f : Nat → Nat} (hop : op ≤ 100) : ∀ d t k, (∀ u, u < t + d → 48 ≤ f u ∧ f u ≤ 57 ∧ m_X5_at0 tx len (op + 1 + u) = nI (f u)) → t + d ≤ 4 → (t + d = 4 ∨ ¬ dig (m_X5_at0 tx len (op + 1 + (t + d)))) → m_X5_counted_L6 tx len op (k + d + 1) (op + 1 + t) (nI (vN f t)) = nI (vN f (t + d)) := by
  intro d
  induction d with
  | zero =>
    intro t k h1 h2 h3
    rw [m_X5_counted_L6]
    rcases h3 with h3 | h3
    · rw [if_pos (by omega)]; rfl
    · by_cases q : op + 5 ≤ op + 1 + t
      · rw [if_pos q]; rfl
      · rw [if_neg q]
        by_cases a : m_X5_at0 tx len (op + 1 + t) < 48
        · rw [if_pos a]; rfl
        · rw [if_neg a, if_pos (by
            rw [show op + 1 + (t + 0) = op + 1 + t by omega] at h3
            exact Int32.not_le.mp (fun q2 => h3 ⟨a, Int32.not_lt.mpr q2⟩))]; rfl
  | succ d ih =>
    intro t k h1 h2 h3
    obtain ⟨f1, f2, f3⟩ := h1 t (by omega)
    show m_X5_counted_L6 tx len op ((k + d + 1) + 1) (op + 1 + t) (nI (vN f t)) = _
    rw [m_X5_counted_L6, f3, if_neg (by omega), if_neg (show ¬ nI (f t) < 48 from nI_nlt (a := f t) (b := 48) f1 (by omega)), if_neg (show ¬ 57 < nI (f t) from nI_nlt (a := 57) (b := f t) f2 (by omega)), v_step2 f1]
    have := ih (t + 1) k (fun u hu => h1 u (by omega)) (by omega) (by rw [show t + 1 + d = t + (d + 1) by omega]; exact h3)
    rw [show op + 1 + (t + 1) = op + 1 + t + 1 by omega, show t + 1 + d = t + (d + 1) by omega] at this
    exact this
theorem bc_skip (hop : op ≤ 100) : ∀ d k i, op + 1 ≤ i → (∀ t, t < d → dig (m_X5_at0 tx len (i + t))) → i + d ≤ op + 6 → m_X5_behindCount_L4 tx len op (k + d) i = m_X5_behindCount_L4 tx len op k (i + d) := by
  intro d
  induction d with
  | zero => intro k i _ _ _; rfl
  | succ d ih =>
    intro k i h0 h1 h2
    have hd := h1 0 (by omega)
    rw [Nat.add_zero] at hd
    show m_X5_behindCount_L4 tx len op ((k + d) + 1) i = _
    rw [m_X5_behindCount_L4, if_neg (by omega), if_neg hd.1, if_neg hd.2, ih k (i + 1) (by omega) (fun t ht => by have := h1 (t + 1) (by omega); rw [show i + (t + 1) = i + 1 + t by omega] at this; exact this) (by omega)]
    congr 1; omega
theorem nb_neg (hop : op ≤ 100) : m_X3_numberBetween cs len op (-1) = 0 := by
  rw [m_X3_numberBetween, m_X3_numberBetween_L7, if_pos]
  exact Int32.le_iff_toInt_le.mpr (by rw [nI_toInt (by omega), show (-1 : Int32).toInt = -1 from by decide]; omega)
theorem cnt_same (hT : TX cs tx len) (hlen : len ≤ 80) (hop : op ≤ 90) :
    (1 ≤ m_X3_numberBetween cs len op (m_X3_closeOf cs len op) ∧ ¬ m_X5_behindCount tx len op = -1 ∧ ∃ v e : Nat, 1 ≤ v ∧ v ≤ 9999 ∧ m_X3_numberBetween cs len op (m_X3_closeOf cs len op) = nI v ∧ m_X5_counted tx len op = nI v ∧ m_X3_closeOf cs len op = nI e ∧ m_X5_behindCount tx len op = nI (e + 1) ∧ op + 2 ≤ e ∧ e ≤ op + 5) ∨
    (¬ 1 ≤ m_X3_numberBetween cs len op (m_X3_closeOf cs len op) ∧ m_X5_behindCount tx len op = -1) := by
  obtain ⟨d, h5, hd, hstop⟩ := digs (m_X5_at0 tx len) op
  have hfd : ∀ u, u < d → 48 ≤ (m_X5_at0 tx len (op + 1 + u)).toNatClampNeg ∧ (m_X5_at0 tx len (op + 1 + u)).toNatClampNeg ≤ 57 ∧ m_X5_at0 tx len (op + 1 + u) = nI (m_X5_at0 tx len (op + 1 + u)).toNatClampNeg := by
    intro u hu
    obtain ⟨k, k1, k2, k3⟩ := dig_nat (hd u hu)
    rw [k3, nI_clamp (by omega)]
    exact ⟨k1, k2, rfl⟩
  have hC : m_X3_closeOf cs len op = m_X3_closeOf_L4 cs len op (op + 7 - d) (op + 1 + d) := by
    have q := cl_skip (cs := cs) (tx := tx) (len := len) (op := op) hT hlen (by omega) d (op + 7 - d) (op + 1) hd (by omega)
    rw [show op + 7 - d + d = op + 6 + 1 by omega] at q
    exact q
  have hB : m_X5_behindCount tx len op = m_X5_behindCount_L4 tx len op (op + 7 - d) (op + 1 + d) := by
    have q := bc_skip (tx := tx) (len := len) (op := op) (by omega) d (op + 7 - d) (op + 1) (Nat.le_refl _) hd (by omega)
    rw [show op + 7 - d + d = op + 6 + 1 by omega] at q
    exact q
  by_cases e5 : d = 5
  · subst e5
    right
    have c1 : m_X3_closeOf cs len op = -1 := by
      rw [hC, show op + 7 - 5 = (op + 1) + 1 by omega, m_X3_closeOf_L4, if_pos (by omega)]
    have b1 : m_X5_behindCount tx len op = -1 := by
      rw [hB, show op + 7 - 5 = (op + 1) + 1 by omega, m_X5_behindCount_L4, if_pos (by omega)]
      split <;> rfl
    rw [c1, nb_neg (by omega)]
    exact ⟨by decide, b1⟩
  · have hns : ¬ dig (m_X5_at0 tx len (op + 1 + d)) := hstop.resolve_left e5
    have hV : m_X5_counted tx len op = nI (vN (fun u => (m_X5_at0 tx len (op + 1 + u)).toNatClampNeg) d) := by
      have := ct_run (tx := tx) (len := len) (op := op) (f := fun u => (m_X5_at0 tx len (op + 1 + u)).toNatClampNeg) (by omega) d 0 (op + 5 - d) (fun u hu => hfd u (by omega)) (by omega) (Or.inr (by rw [Nat.zero_add]; exact hns))
      rw [show op + 5 - d + d + 1 = op + 5 + 1 by omega, Nat.zero_add] at this
      exact this
    have hvl := vN_lt (f := fun u => (m_X5_at0 tx len (op + 1 + u)).toNatClampNeg) d (fun t ht => ⟨(hfd t ht).1, (hfd t ht).2.1⟩)
    have h104 : vN (fun u => (m_X5_at0 tx len (op + 1 + u)).toNatClampNeg) d < 10000 := Nat.lt_of_lt_of_le hvl (by
      rcases (show d = 0 ∨ d = 1 ∨ d = 2 ∨ d = 3 ∨ d = 4 by omega) with rfl | rfl | rfl | rfl | rfl <;> decide)
    have hch : m_X3_characterAt cs len (nI (op + 1 + d)) = nrm (m_X5_at0 tx len (op + 1 + d)) := ca_nrm hT hlen (by omega)
    have hB2 : m_X5_behindCount tx len op = if m_X5_behindCount_j76_s0 tx len op (op + 1 + d) = false then -1 else nI (op + 1 + d + 1) := by
      rw [hB, show op + 7 - d = (op + 6 - d) + 1 by omega, m_X5_behindCount_L4, if_neg (by omega)]
      by_cases a : m_X5_at0 tx len (op + 1 + d) < 48
      · rw [if_pos a]
      · rw [if_neg a, if_pos (Int32.not_le.mp (fun q => hns ⟨a, Int32.not_lt.mpr q⟩))]
        rfl
    by_cases h41 : m_X5_at0 tx len (op + 1 + d) = 41
    · have c1 : m_X3_closeOf cs len op = nI (op + 1 + d) := by
        rw [hC, show op + 7 - d = (op + 6 - d) + 1 by omega, m_X3_closeOf_L4, if_neg (by omega), hch, h41, if_pos (by decide)]
      have n1 : m_X3_numberBetween cs len op (nI (op + 1 + d)) = nI (vN (fun u => (m_X5_at0 tx len (op + 1 + u)).toNatClampNeg) d) := by
        have := nb_run (cs := cs) (tx := tx) (len := len) (f := fun u => (m_X5_at0 tx len (op + 1 + u)).toNatClampNeg) (o := op + 1) hT hlen (by omega) d 0 (200 - d) (fun u hu => hfd u (by omega)) (by omega)
        rw [show 200 - d + d + 1 = 200 + 1 by omega, Nat.zero_add] at this
        exact this
      rw [c1, n1, hV, hB2]
      generalize hv : vN (fun u => (m_X5_at0 tx len (op + 1 + u)).toNatClampNeg) d = v at h104 hV
      by_cases d0 : d = 0
      · right
        have v0 : v = 0 := by rw [← hv, d0]; rfl
        subst v0
        refine ⟨by decide, ?_⟩
        rw [if_pos]
        unfold m_X5_behindCount_j76_s0
        rw [if_pos (by omega)]
      · by_cases v0 : v = 0
        · subst v0
          right
          refine ⟨by decide, ?_⟩
          rw [if_pos]
          unfold m_X5_behindCount_j76_s0
          rw [if_neg (by omega), if_pos h41, hV, if_pos (by decide)]
        · left
          have j1 : m_X5_behindCount_j76_s0 tx len op (op + 1 + d) = true := by
            unfold m_X5_behindCount_j76_s0
            rw [if_neg (by omega), if_pos h41, hV, if_neg (nI_nle (by omega) (by omega))]
          rw [j1, if_neg (by decide)]
          exact ⟨nI_le (a := 1) (b := v) (by omega) (by omega), nI_nm1 (by omega), v, op + 1 + d, by omega, by omega, rfl, rfl, rfl, rfl, by omega, by omega⟩
    · right
      have c1 : m_X3_closeOf cs len op = -1 := by
        rw [hC, show op + 7 - d = (op + 6 - d) + 1 by omega, m_X3_closeOf_L4, if_neg (by omega), hch, if_neg (show ¬ nrm (m_X5_at0 tx len (op + 1 + d)) = 41 from fun q => h41 ((nrm_is (q := 41) (by omega) (by omega)).mp q))]
        by_cases a : nrm (m_X5_at0 tx len (op + 1 + d)) < 48
        · rw [if_pos a]
        · rw [if_neg a, if_neg (fun q => hns (nrm_dig_iff.mp ⟨a, Int32.not_lt.mpr q⟩))]
      rw [c1, nb_neg (by omega), hB2]
      refine ⟨by decide, ?_⟩
      rw [if_pos]
      unfold m_X5_behindCount_j76_s0
      by_cases q : op + 1 + d ≤ op + 1
      · rw [if_pos q]
      · rw [if_neg q, if_neg h41]
end CNT
