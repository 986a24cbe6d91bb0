/-! the mathematics, 1: the text, its signs and counts: class and reference read alike -/
def nrm (c : Int32) : Int32 := m_X3_append_j41_s0 c
def TX (cs tx : Nat → Int32) (len : Nat) : Prop := ∀ j, j < len → cs j = nrm (tx j)
/-- a class's sign as the reference's -/
def tau (s : Int32) : Int32 := if s = 36 then 202 else if s = 67 then 200 else if s = 68 then 201 else s
theorem ca_at {cs : Nat → Int32} {len j : Nat} (hlen : len ≤ 80) (hj : j < 2 ^ 31) : m_X3_characterAt cs len (nI j) = if j < len then cs j else 0 := by
  unfold m_X3_characterAt
  rw [if_neg (nI_pos hj)]
  by_cases h : j < len
  · rw [if_neg (nI_ge h (by omega)), if_pos (show nI j < 80 from nI_lt (a := j) (b := 80) (by omega) (by omega)), if_pos h, nI_clamp hj]
  · rw [if_pos (nI_le (by omega) hj), if_neg h]
theorem ca_nrm {cs tx : Nat → Int32} {len j : Nat} (hT : TX cs tx len) (hlen : len ≤ 80) (hj : j < 2 ^ 31) : m_X3_characterAt cs len (nI j) = nrm (m_X5_at0 tx len j) := by
  rw [ca_at hlen hj]
  unfold m_X5_at0
  by_cases h : j < len
  · rw [if_pos h, if_neg (by omega)]; exact hT j h
  · rw [if_neg h, if_pos (by omega)]; rfl
theorem nrm_out {b : Int32} (h : b < 1 ∨ 126 < b) : nrm b = 0 := by
  unfold nrm m_X3_append_j41_s0
  by_cases q : b < 1
  · rw [if_pos q]
  · rw [if_neg q, if_pos (h.resolve_left q)]
theorem nrm_in {b : Int32} (h1 : ¬ b < 1) (h2 : ¬ 126 < b) : nrm b = b := by
  unfold nrm m_X3_append_j41_s0
  rw [if_neg h1, if_neg h2]
theorem in127 {b : Int32} (h1 : ¬ b < 1) (h2 : ¬ 126 < b) : ∃ k : Nat, k < 127 ∧ b = nI k := by
  have a : ¬ b < 0 := fun q => h1 (Int32.lt_iff_toInt_lt.mpr (by have := Int32.lt_iff_toInt_lt.mp q; rw [Int32.toInt_zero] at this; rw [show (1 : Int32).toInt = 1 from by decide]; omega))
  obtain ⟨k, hk, rfl⟩ := nI_of a
  refine ⟨k, ?_, rfl⟩
  rcases Nat.lt_or_ge k 127 with q | q
  · exact q
  · exact absurd (nI_lt (a := 126) (b := k) (by omega) hk) h2
/-- the class's sign of a character and the next, the reference's -/
def sgC (a a2 cu : Int32) : Int32 := if a = cu then 36 else (if m_X4_greatOf a = 67 then (if m_X4_greatOf a2 = 82 then 67 else -1) else (if m_X4_greatOf a = 68 then (if m_X4_greatOf a2 = 66 then 68 else -1) else (if 0 ≤ m_J0_indexOf_0f7a4 0 (((m_X4_greatOf a).toUInt32 % 65536).toInt32) then m_X4_greatOf a else -1)))
theorem sg_ix67 : ¬ (0 : Int32) ≤ m_J0_indexOf_0f7a4 0 (((67 : Int32).toUInt32 % 65536).toInt32) := by decide +kernel
theorem sg_ix68 : ¬ (0 : Int32) ≤ m_J0_indexOf_0f7a4 0 (((68 : Int32).toUInt32 % 65536).toInt32) := by decide +kernel
theorem sgC_eq (cs : Nat → Int32) (len pl : Nat) (cu : Int32) : m_X3_signAt cs len pl cu = sgC (m_X3_characterAt cs len (nI pl)) (m_X3_characterAt cs len (nI (pl + 1))) cu := by
  unfold m_X3_signAt sgC
  generalize m_X3_characterAt cs len (nI pl) = a
  generalize m_X4_greatOf (m_X3_characterAt cs len (nI (pl + 1))) = g2
  by_cases h0 : a = cu
  · rw [if_pos h0, if_pos h0]
  rw [if_neg h0, if_neg h0]
  generalize m_X4_greatOf a = g
  by_cases h1 : g = 67
  · subst h1
    rw [if_pos rfl, if_pos rfl]
    by_cases h2 : g2 = 82
    · rw [if_pos h2, if_pos h2]
    · rw [if_neg h2, if_neg h2, if_neg (by decide), if_neg sg_ix67]
  · rw [if_neg h1, if_neg h1]
    by_cases h2 : g = 68
    · subst h2
      rw [if_pos rfl, if_pos rfl]
      by_cases h3 : g2 = 66
      · rw [if_pos h3, if_pos h3]
      · rw [if_neg h3, if_neg h3, if_neg sg_ix68]
    · rw [if_neg h2, if_neg h2]
def isG (g : Int32) : Bool := if g = 65 then true else (if g = 88 then true else (if g = 57 then true else (if g = 90 then true else (if g = 42 then true else (if g = 66 then true else (if g = 48 then true else (if g = 47 then true else (if g = 44 then true else (if g = 46 then true else (if g = 43 then true else (if g = 45 then true else (if g = 83 then true else (if g = 86 then true else (if g = 80 then true else (if g = 78 then true else false)))))))))))))))
def sgR (b b2 mo : Int32) : Int32 := if b = mo then 202 else (if m_X5_great b = 67 then (if m_X5_great b2 = 82 then 200 else -1) else (if m_X5_great b = 68 then (if m_X5_great b2 = 66 then 201 else -1) else (if isG (m_X5_great b) = false then -1 else m_X5_great b)))
theorem sgR_eq (tx : Nat → Int32) (len pl : Nat) (mo : Int32) : m_X5_signAt tx len mo pl = sgR (m_X5_at0 tx len pl) (m_X5_at0 tx len (pl + 1)) mo := rfl
theorem gr_same : ∀ k, k < 127 → m_X4_greatOf (nI k) = m_X5_great (nI k) := by decide +kernel
theorem gr_lt : ∀ k, k < 127 → (0 ≤ m_J0_indexOf_0f7a4 0 (((m_X4_greatOf (nI k)).toUInt32 % 65536).toInt32) ↔ ¬ isG (m_X5_great (nI k)) = false) := by decide +kernel
theorem gr_tau : ∀ k, k < 127 → isG (m_X5_great (nI k)) = true → tau (m_X5_great (nI k)) = m_X5_great (nI k) ∧ ¬ m_X5_great (nI k) = -1 := by decide +kernel
theorem gr_next (b : Int32) (q : Nat) (hq : q < 127) (hq1 : 65 ≤ q) (hq2 : q ≤ 90) : m_X4_greatOf (nrm b) = nI q ↔ m_X5_great b = nI q := by
  by_cases h1 : b < 1 ∨ 126 < b
  · rw [nrm_out h1]
    have e1 : m_X4_greatOf 0 = 0 := by decide
    have e2 : m_X5_great b = b := by
      unfold m_X5_great
      by_cases a : b < 97
      · rw [if_pos a]
      · rw [if_neg a]
        have : 122 < b := by
          rcases h1 with h1 | h1
          · exact absurd (Int32.lt_iff_toInt_lt.mpr (by have := Int32.lt_iff_toInt_lt.mp h1; rw [show (1 : Int32).toInt = 1 from by decide] at this; rw [show (97 : Int32).toInt = 97 from by decide]; omega)) a
          · exact Int32.lt_iff_toInt_lt.mpr (by have := Int32.lt_iff_toInt_lt.mp h1; rw [show (126 : Int32).toInt = 126 from by decide] at this; rw [show (122 : Int32).toInt = 122 from by decide]; omega)
        rw [if_pos this]
    rw [e1, e2]
    constructor
    · intro h; exact absurd h.symm (nI_ne0 (by omega) (by omega))
    · intro h
      subst h
      rcases h1 with h1 | h1
      · exact absurd h1 (nI_nlt (a := q) (b := 1) (by omega) (by omega))
      · exact absurd h1 (nI_nlt (a := 126) (b := q) (by omega) (by omega))
  · have h1a : ¬ b < 1 := fun h => h1 (Or.inl h)
    have h1b : ¬ 126 < b := fun h => h1 (Or.inr h)
    rw [nrm_in h1a h1b]
    obtain ⟨k, hk, rfl⟩ := in127 h1a h1b
    rw [gr_same k hk]
theorem sg_same {b b2 mo : Int32} (hm1 : ¬ mo < 33) (hm2 : ¬ 126 < mo) : sgR b b2 mo = if sgC (nrm b) (nrm b2) mo = -1 then -1 else tau (sgC (nrm b) (nrm b2) mo) := by
  have n82 := gr_next b2 82 (by omega) (by omega) (by omega)
  have n66 := gr_next b2 66 (by omega) (by omega) (by omega)
  have h82 : m_X4_greatOf (nrm b2) = 82 ↔ m_X5_great b2 = 82 := n82
  have h66 : m_X4_greatOf (nrm b2) = 66 ↔ m_X5_great b2 = 66 := n66
  have hmi : ∃ k : Nat, 33 ≤ k ∧ k < 127 ∧ mo = nI k := by
    obtain ⟨k, hk, rfl⟩ := in127 (b := mo) (fun h => hm1 (Int32.lt_iff_toInt_lt.mpr (by have := Int32.lt_iff_toInt_lt.mp h; rw [show (1 : Int32).toInt = 1 from by decide] at this; rw [show (33 : Int32).toInt = 33 from by decide]; omega))) hm2
    refine ⟨k, ?_, hk, rfl⟩
    rcases Nat.lt_or_ge k 33 with q | q
    · exact absurd (nI_lt (a := k) (b := 33) q (by omega)) hm1
    · exact q
  obtain ⟨mk, hmk1, hmk2, rfl⟩ := hmi
  unfold sgR sgC
  by_cases h1 : b < 1 ∨ 126 < b
  · rw [nrm_out h1]
    have e0 : ¬ b = nI mk := fun h => by
      subst h
      rcases h1 with h1 | h1
      · exact absurd h1 (nI_nlt (a := mk) (b := 1) (by omega) (by omega))
      · exact absurd h1 (nI_nlt (a := 126) (b := mk) (by omega) (by omega))
    have e0' : ¬ (0 : Int32) = nI mk := fun h => nI_ne0 (by omega) (by omega) h.symm
    have e2 : ∀ q : Nat, 1 ≤ q → q ≤ 126 → ¬ b = nI q := fun q q1 q2 h => by
      subst h
      rcases h1 with h1 | h1
      · exact absurd h1 (nI_nlt (a := q) (b := 1) (by omega) (by omega))
      · exact absurd h1 (nI_nlt (a := 126) (b := q) (by omega) (by omega))
    have eg : m_X5_great b = b := by
      unfold m_X5_great
      by_cases a : b < 97
      · rw [if_pos a]
      · rw [if_neg a]
        have : 122 < b := by
          rcases h1 with h1 | h1
          · exact absurd (Int32.lt_iff_toInt_lt.mpr (by have := Int32.lt_iff_toInt_lt.mp h1; rw [show (1 : Int32).toInt = 1 from by decide] at this; rw [show (97 : Int32).toInt = 97 from by decide]; omega)) a
          · exact Int32.lt_iff_toInt_lt.mpr (by have := Int32.lt_iff_toInt_lt.mp h1; rw [show (126 : Int32).toInt = 126 from by decide] at this; rw [show (122 : Int32).toInt = 122 from by decide]; omega)
        rw [if_pos this]
    have eis : isG b = false := by
      unfold isG
      rw [if_neg (show ¬ b = 65 from e2 65 (by omega) (by omega)), if_neg (show ¬ b = 88 from e2 88 (by omega) (by omega)), if_neg (show ¬ b = 57 from e2 57 (by omega) (by omega)), if_neg (show ¬ b = 90 from e2 90 (by omega) (by omega)), if_neg (show ¬ b = 42 from e2 42 (by omega) (by omega)), if_neg (show ¬ b = 66 from e2 66 (by omega) (by omega)), if_neg (show ¬ b = 48 from e2 48 (by omega) (by omega)), if_neg (show ¬ b = 47 from e2 47 (by omega) (by omega)), if_neg (show ¬ b = 44 from e2 44 (by omega) (by omega)), if_neg (show ¬ b = 46 from e2 46 (by omega) (by omega)), if_neg (show ¬ b = 43 from e2 43 (by omega) (by omega)), if_neg (show ¬ b = 45 from e2 45 (by omega) (by omega)), if_neg (show ¬ b = 83 from e2 83 (by omega) (by omega)), if_neg (show ¬ b = 86 from e2 86 (by omega) (by omega)), if_neg (show ¬ b = 80 from e2 80 (by omega) (by omega)), if_neg (show ¬ b = 78 from e2 78 (by omega) (by omega))]
    rw [if_neg e0, eg, if_neg (show ¬ b = 67 from e2 67 (by omega) (by omega)), if_neg (show ¬ b = 68 from e2 68 (by omega) (by omega)), if_pos eis, if_neg e0', if_neg (show ¬ m_X4_greatOf 0 = 67 by decide), if_neg (show ¬ m_X4_greatOf 0 = 68 by decide), if_neg (show ¬ (0 : Int32) ≤ m_J0_indexOf_0f7a4 0 (((m_X4_greatOf 0).toUInt32 % 65536).toInt32) by decide +kernel), if_pos rfl]
  · have h1a : ¬ b < 1 := fun h => h1 (Or.inl h)
    have h1b : ¬ 126 < b := fun h => h1 (Or.inr h)
    rw [nrm_in h1a h1b]
    obtain ⟨k, hk, rfl⟩ := in127 h1a h1b
    by_cases h0 : nI k = nI mk
    · rw [if_pos h0, if_pos h0, if_neg (by decide)]; decide
    · rw [if_neg h0, if_neg h0, ← gr_same k hk]
      by_cases h2 : m_X4_greatOf (nI k) = 67
      · rw [if_pos h2, if_pos h2]
        by_cases h3 : m_X5_great b2 = 82
        · rw [if_pos h3, if_pos (h82.mpr h3), if_neg (by decide)]; decide
        · rw [if_neg h3, if_neg (fun q => h3 (h82.mp q)), if_pos rfl]
      · rw [if_neg h2, if_neg h2]
        by_cases h4 : m_X4_greatOf (nI k) = 68
        · rw [if_pos h4, if_pos h4]
          by_cases h3 : m_X5_great b2 = 66
          · rw [if_pos h3, if_pos (h66.mpr h3), if_neg (by decide)]; decide
          · rw [if_neg h3, if_neg (fun q => h3 (h66.mp q)), if_pos rfl]
        · rw [if_neg h4, if_neg h4]
          have gl := gr_lt k hk
          rw [← gr_same k hk] at gl
          by_cases h5 : isG (m_X4_greatOf (nI k)) = false
          · rw [if_pos h5, if_neg (fun q => (gl.mp q) h5), if_pos rfl]
          · have h6 : isG (m_X5_great (nI k)) = true := by
              rw [← gr_same k hk]; cases hh : isG (m_X4_greatOf (nI k)) with
              | true => rfl
              | false => exact absurd hh h5
            obtain ⟨t1, t2⟩ := gr_tau k hk h6
            rw [← gr_same k hk] at t1 t2
            rw [if_neg h5, if_pos (gl.mpr h5), if_neg t2, t1]
/-- the signs of both, place by place -/
theorem sign_same {cs tx : Nat → Int32} {len pl : Nat} {mo : Int32} (hT : TX cs tx len) (hlen : len ≤ 80) (hpl : pl + 1 < 2 ^ 31) (hm1 : ¬ mo < 33) (hm2 : ¬ 126 < mo) : m_X5_signAt tx len mo pl = if m_X3_signAt cs len pl mo = -1 then -1 else tau (m_X3_signAt cs len pl mo) := by
  rw [sgR_eq, sgC_eq, ca_nrm hT hlen (by omega), ca_nrm hT hlen hpl]
  exact sg_same hm1 hm2
