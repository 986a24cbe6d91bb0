/-! the mathematics, 3: the runs that the class takes and the rows that the reference scans -/
abbrev Run : Type := Int32 × Nat × Nat
def vsL : List Nat := [36, 67, 68, 65, 88, 57, 90, 42, 66, 48, 47, 44, 46, 43, 45, 83, 86, 80, 78]
def VS (s : Int32) : Prop := ∃ k ∈ vsL, s = nI k
theorem vs_fin {P : Int32 → Prop} (h : ∀ k ∈ vsL, P (nI k)) {s : Int32} (hs : VS s) : P s := by
  obtain ⟨k, hk, rfl⟩ := hs
  exact h k hk
theorem vs_tau {s : Int32} (hs : VS s) : ¬ tau s = -1 ∧ (tau s = 43 ↔ s = 43) ∧ (tau s = 45 ↔ s = 45) ∧ (tau s = 202 ↔ s = 36) ∧ ¬ s = -1 := vs_fin (P := fun s => ¬ tau s = -1 ∧ (tau s = 43 ↔ s = 43) ∧ (tau s = 45 ↔ s = 45) ∧ (tau s = 202 ↔ s = 36) ∧ ¬ s = -1) (by decide +kernel) hs
theorem vs_wid {s : Int32} (hs : VS s) : (if tau s = 200 then 2 else (if tau s = 201 then 2 else 1)) = m_X4_widthOf s := vs_fin (P := fun s => (if tau s = 200 then 2 else (if tau s = 201 then 2 else 1)) = m_X4_widthOf s) (by decide +kernel) hs
theorem vs_great : ∀ k, k < 127 → isG (m_X5_great (nI k)) = true → ∃ q ∈ vsL, m_X5_great (nI k) = nI q := by decide +kernel
theorem sgC_vs {b b2 mo : Int32} (hm1 : ¬ mo < 33) (h : ¬ sgC (nrm b) (nrm b2) mo = -1) : VS (sgC (nrm b) (nrm b2) mo) := by
  unfold sgC at h ⊢
  by_cases h0 : nrm b = mo
  · rw [if_pos h0]; exact ⟨36, by decide, rfl⟩
  rw [if_neg h0] at h ⊢
  by_cases h2 : m_X4_greatOf (nrm b) = 67
  · rw [if_pos h2] at h ⊢
    by_cases h3 : m_X4_greatOf (nrm b2) = 82
    · rw [if_pos h3]; exact ⟨67, by decide, rfl⟩
    · rw [if_neg h3] at h; exact absurd rfl h
  rw [if_neg h2] at h ⊢
  by_cases h4 : m_X4_greatOf (nrm b) = 68
  · rw [if_pos h4] at h ⊢
    by_cases h3 : m_X4_greatOf (nrm b2) = 66
    · rw [if_pos h3]; exact ⟨68, by decide, rfl⟩
    · rw [if_neg h3] at h; exact absurd rfl h
  rw [if_neg h4] at h ⊢
  by_cases h5 : 0 ≤ m_J0_indexOf_0f7a4 0 (((m_X4_greatOf (nrm b)).toUInt32 % 65536).toInt32)
  · rw [if_pos h5]
    by_cases h1 : b < 1 ∨ 126 < b
    · rw [nrm_out h1] at h5
      exact absurd h5 (by decide +kernel)
    · have h1a : ¬ b < 1 := fun q => h1 (Or.inl q)
      have h1b : ¬ 126 < b := fun q => h1 (Or.inr q)
      rw [nrm_in h1a h1b] at h5 ⊢
      obtain ⟨k, hk, rfl⟩ := in127 h1a h1b
      have a := (gr_lt k hk).mp h5
      have b' : isG (m_X5_great (nI k)) = true := by
        cases hh : isG (m_X5_great (nI k)) with
        | true => rfl
        | false => exact absurd hh a
      rw [gr_same k hk]
      exact vs_great k hk b'
  · rw [if_neg h5] at h; exact absurd rfl h
def ex : List Run → List (Int32 × Nat)
  | [] => []
  | r :: R => List.replicate r.2.1 (tau r.1, r.2.2) ++ ex R
theorem ex_app (R : List Run) (r : Run) : ex (R ++ [r]) = ex R ++ List.replicate r.2.1 (tau r.1, r.2.2) := by
  induction R with
  | nil => show List.replicate r.2.1 (tau r.1, r.2.2) ++ [] = [] ++ _; rw [List.append_nil, List.nil_append]
  | cons a R ih => show List.replicate _ _ ++ ex (R ++ [r]) = (List.replicate _ _ ++ ex R) ++ _; rw [ih, List.append_assoc]
/-- how often a sign stands -/
def sumT (s : Int32) : List Run → Nat
  | [] => 0
  | r :: R => (if r.1 = s then r.2.1 else 0) + sumT s R
theorem sumT_app (s : Int32) (R : List Run) (r : Run) : sumT s (R ++ [r]) = sumT s R + (if r.1 = s then r.2.1 else 0) := by
  induction R with
  | nil => show (if r.1 = s then r.2.1 else 0) + 0 = 0 + _; omega
  | cons a R ih => show (if a.1 = s then a.2.1 else 0) + sumT s (R ++ [r]) = ((if a.1 = s then a.2.1 else 0) + sumT s R) + _; rw [ih]; omega
def CR (R : List Run) (ss ts ps : Nat → Int32) : Prop := ∀ i r, R[i]? = some r → ss i = r.1 ∧ ts i = nI r.2.1 ∧ ps i = nI r.2.2
def RR (R : List Run) (rd pl : Nat → Int32) (my : Nat) (pu mi ms : Int32) : Prop := my = min 10200 (ex R).length ∧ (∀ j q, j < my → (ex R)[j]? = some q → rd j = q.1 ∧ pl j = nI q.2) ∧ pu = nI (sumT 43 R) ∧ mi = nI (sumT 45 R) ∧ ms = nI (sumT 36 R)
def OKR (R : List Run) : Prop := R.length ≤ 80 ∧ ∀ r ∈ R, 1 ≤ r.2.1 ∧ r.2.1 ≤ 9999 ∧ VS r.1 ∧ r.2.2 < 80
theorem CR_push {R : List Run} {ss ts ps : Nat → Int32} (h : CR R ss ts ps) (s : Int32) (n p : Nat) : CR (R ++ [(s, n, p)]) (upd ss R.length s) (upd ts R.length (nI n)) (upd ps R.length (nI p)) := by
  intro i r hr
  by_cases e : i = R.length
  · subst e
    rw [List.getElem?_append_right (Nat.le_refl _), Nat.sub_self] at hr
    cases hr
    exact ⟨pk_us, pk_us, pk_us⟩
  · have hl : i < R.length := by
      have := (List.getElem?_eq_some_iff.mp hr).1
      rw [List.length_append] at this
      simp at this
      omega
    rw [List.getElem?_append_left hl] at hr
    rw [pk_un e, pk_un e, pk_un e]
    exact h i r hr
theorem OKR_push {R : List Run} (h : OKR R) {s : Int32} {n p : Nat} (hl : R.length < 80) (h1 : 1 ≤ n) (h2 : n ≤ 9999) (hs : VS s) (hp : p < 80) : OKR (R ++ [(s, n, p)]) := by
  refine ⟨by rw [List.length_append]; simp; omega, fun r hr => ?_⟩
  rcases List.mem_append.mp hr with q | q
  · exact h.2 r q
  · rw [List.mem_singleton] at q; subst q; exact ⟨h1, h2, hs, hp⟩
theorem RR_push {R : List Run} {rd pl rd2 pl2 : Nat → Int32} {my : Nat} {pu mi ms pu2 mi2 ms2 : Int32} (h : RR R rd pl my pu mi ms) {s : Int32} {n p : Nat} (hk : ∀ q, q < my → rd2 q = rd q ∧ pl2 q = pl q) (hn : ∀ q, my ≤ q → q < min 10200 (my + n) → rd2 q = tau s ∧ pl2 q = nI p) (h1 : pu2 = pu + nI (if s = 43 then n else 0)) (h2 : mi2 = mi + nI (if s = 45 then n else 0)) (h3 : ms2 = ms + nI (if s = 36 then n else 0)) : RR (R ++ [(s, n, p)]) rd2 pl2 (min 10200 (my + n)) pu2 mi2 ms2 := by
  obtain ⟨a1, a2, a3, a4, a5⟩ := h
  refine ⟨?_, ?_, ?_, ?_, ?_⟩
  · rw [ex_app, List.length_append, List.length_replicate, a1]; dsimp only; omega
  · intro j q hj hq
    rw [ex_app] at hq
    by_cases c : j < my
    · obtain ⟨b1, b2⟩ := hk j c
      rw [b1, b2]
      rw [List.getElem?_append_left (by omega)] at hq
      exact a2 j q c hq
    · obtain ⟨b1, b2⟩ := hn j (by omega) hj
      rw [b1, b2]
      rw [List.getElem?_append_right (by omega), List.getElem?_replicate] at hq
      split at hq
      · cases hq; exact ⟨rfl, rfl⟩
      · cases hq
  · rw [h1, a3, nI_add, sumT_app]
  · rw [h2, a4, nI_add, sumT_app]
  · rw [h3, a5, nI_add, sumT_app]
section SCN
variable {cs tx : Nat → Int32} {len : Nat} {mo : Int32}
theorem in1 (K : Nat → (Nat → Int32) → (Nat → Int32) → Nat → Int32 → Int32 → Int32 → Int32 × (Nat → Int32) × (Nat → Int32) × Nat × Int32 × Int32 × Int32) (i : Nat) (pu mi ms : Int32) (k : Nat) (rd pl : Nat → Int32) (my : Nat) (hmy : my ≤ 10200) :
    ∃ rd2 pl2, m_X5_scan_L171 K tx len mo i pu mi ms (k + 2) 0 rd pl my = K (i + m_X5_scan_j65_s0 tx len mo i) rd2 pl2 (min 10200 (my + 1)) (pu + bI (m_X5_scan_j121_s0 tx len mo i)) (mi + bI (m_X5_scan_j142_s0 tx len mo i)) (ms + bI (m_X5_scan_j164_s0 tx len mo i)) ∧ (∀ q, q < my → rd2 q = rd q ∧ pl2 q = pl q) ∧ (∀ q, my ≤ q → q < min 10200 (my + 1) → rd2 q = m_X5_signAt tx len mo i ∧ pl2 q = nI i) := by
  rw [show k + 2 = (k + 1) + 1 from rfl, m_X5_scan_L171, if_neg (by omega)]
  by_cases h : 10200 ≤ my
  · rw [if_pos h]
    refine ⟨rd, pl, ?_, fun q _ => ⟨rfl, rfl⟩, fun q h1 h2 => by omega⟩
    rw [show min 10200 (my + 1) = my by omega]
  · rw [if_neg h, m_X5_scan_L171, if_pos (by omega)]
    refine ⟨upd rd my (m_X5_signAt tx len mo i), upd pl my (nI i), ?_, fun q hq => ⟨pk_un (by omega), pk_un (by omega)⟩, fun q h1 h2 => ?_⟩
    · rw [show min 10200 (my + 1) = my + 1 by omega]
    · rw [show q = my by omega]; exact ⟨pk_us, pk_us⟩
theorem in2 (K : Nat → (Nat → Int32) → (Nat → Int32) → Nat → Int32 → Int32 → Int32 → Int32 × (Nat → Int32) × (Nat → Int32) × Nat × Int32 × Int32 × Int32) (i : Nat) (pu mi ms : Int32) {v : Nat} (hv : m_X5_counted tx len (i + m_X5_scan_j65_s0 tx len mo i) = nI v) (hv9 : v ≤ 9999) : ∀ d j k rd pl my, j + d = v → d < k → my ≤ 10200 →
    ∃ rd2 pl2, m_X5_scan_L171_2 K tx len mo i pu mi ms k j rd pl my = K (m_X5_behindCount tx len (i + m_X5_scan_j65_s0 tx len mo i)).toNatClampNeg rd2 pl2 (min 10200 (my + d)) (pu + m_X5_scan_j121_s0_2 tx len mo i) (mi + m_X5_scan_j142_s0_2 tx len mo i) (ms + m_X5_scan_j164_s0_2 tx len mo i) ∧ (∀ q, q < my → rd2 q = rd q ∧ pl2 q = pl q) ∧ (∀ q, my ≤ q → q < min 10200 (my + d) → rd2 q = m_X5_signAt tx len mo i ∧ pl2 q = nI i) := by
  intro d
  induction d with
  | zero =>
    intro j k rd pl my hj hk hmy
    rw [show k = (k - 1) + 1 by omega, m_X5_scan_L171_2, hv, if_pos (nI_le (by omega) (by omega))]
    refine ⟨rd, pl, ?_, fun q _ => ⟨rfl, rfl⟩, fun q h1 h2 => by omega⟩
    rw [show min 10200 (my + 0) = my by omega]
  | succ d ih =>
    intro j k rd pl my hj hk hmy
    rw [show k = (k - 1) + 1 by omega, m_X5_scan_L171_2, hv, if_neg (nI_ge (by omega) (by omega))]
    by_cases h : 10200 ≤ my
    · rw [if_pos h]
      refine ⟨rd, pl, ?_, fun q _ => ⟨rfl, rfl⟩, fun q h1 h2 => by omega⟩
      rw [show min 10200 (my + (d + 1)) = my by omega]
    · rw [if_neg h]
      obtain ⟨rd2, pl2, e1, e2, e3⟩ := ih (j + 1) (k - 1) (upd rd my (m_X5_signAt tx len mo i)) (upd pl my (nI i)) (my + 1) (by omega) (by omega) (by omega)
      rw [show my + 1 + d = my + (d + 1) by omega] at e1 e3
      refine ⟨rd2, pl2, e1, fun q hq => ?_, fun q h1 h2 => ?_⟩
      · obtain ⟨g1, g2⟩ := e2 q (by omega)
        rw [g1, g2]; exact ⟨pk_un (by omega), pk_un (by omega)⟩
      · by_cases e : q = my
        · subst e
          obtain ⟨g1, g2⟩ := e2 q (by omega)
          rw [g1, g2]; exact ⟨pk_us, pk_us⟩
        · exact e3 q (by omega) h2
end SCN
