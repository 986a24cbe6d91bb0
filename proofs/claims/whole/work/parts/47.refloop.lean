/-! the mathematics, 8: the reference's loop over the signs, run by run -/
def badb (A : List KRun) (d w : Nat) (q : KRun) (t : Nat) : Bool := decide ((t < 2 ∧ (!(A.all (fun a => al a.2 q.2)) || (decide (0 < t) && !al q.2 q.2) || rival A q) = true) ∨ 31 < d + dgs A q (t + 1) ∨ 9999 < w + wdN q.1.1 * (t + 1))
abbrev badT (A : List KRun) (d w : Nat) (q : KRun) (t : Nat) : Prop := badb A d w q t = true
theorem badT_e {A : List KRun} {d w : Nat} {q : KRun} {t : Nat} (h : badT A d w q t) : (t < 2 ∧ (!(A.all (fun a => al a.2 q.2)) || (decide (0 < t) && !al q.2 q.2) || rival A q) = true) ∨ 31 < d + dgs A q (t + 1) ∨ 9999 < w + wdN q.1.1 * (t + 1) := of_decide_eq_true h
theorem badT_m {A : List KRun} {d w : Nat} {q : KRun} {t : Nat} (h : (t < 2 ∧ (!(A.all (fun a => al a.2 q.2)) || (decide (0 < t) && !al q.2 q.2) || rival A q) = true) ∨ 31 < d + dgs A q (t + 1) ∨ 9999 < w + wdN q.1.1 * (t + 1)) : badT A d w q t := decide_eq_true h
theorem dgs_le {A : List KRun} {q : KRun} (t : Nat) : dgs A q t ≤ t := by
  unfold dgs; split
  · omega
  · split
    · split <;> omega
    · omega
theorem dgs_mono {A : List KRun} {q : KRun} {t u : Nat} (h : t ≤ u) : dgs A q t ≤ dgs A q u := by
  unfold dgs; split
  · omega
  · split
    · split <;> omega
    · omega
section WRL
variable {rd pl kk tb : Nat → Int32} {my len : Nat}
theorem wrong_step (htb : ∀ a, a < 19 → tb a = tbL.getD a 0) {A B : List KRun} {q : KRun} (hA : ∀ a ∈ A, KOK a) (hq : KOK q) (hpl : ∀ a ∈ A, a.1.2.2 < q.1.2.2) (hR : RQ (exq (A ++ q :: B)) rd pl kk my) {t d w f : Nat} (ht : t < q.1.2.1) (hmy : (exq A).length + t < my) (hd : d ≤ 31) (hw : w ≤ 9999) (x3 : Int32) :
    m_X5_wrong_L9 rd pl kk tb my len (f + 1) ((exq A).length + t) (nI (d + dgs A q t)) (nI (w + wdN q.1.1 * t)) x3 = if badT A d w q t then nI q.1.2.2 else m_X5_wrong_L9 rd pl kk tb my len f ((exq A).length + t + 1) (nI (d + dgs A q (t + 1))) (nI (w + wdN q.1.1 * (t + 1))) (nI ((exq A).length + t)) := by
  have hsplit : exq (A ++ q :: B) = (exq A ++ List.replicate t q) ++ (List.replicate (q.1.2.1 - t) q ++ exq B) := by
    rw [exq_app]
    show exq A ++ (List.replicate q.1.2.1 q ++ exq B) = _
    rw [show List.replicate q.1.2.1 q = List.replicate t q ++ List.replicate (q.1.2.1 - t) q from by rw [List.replicate_append_replicate, show t + (q.1.2.1 - t) = q.1.2.1 by omega], List.append_assoc, List.append_assoc]
  have hl : (exq A ++ List.replicate t q).length = (exq A).length + t := by rw [List.length_append, List.length_replicate]
  have hT : ∀ u a, (exq A ++ List.replicate t q)[u]? = some a → rd u = tau a.1.1 ∧ pl u = nI a.1.2.2 ∧ kk u = nI a.2 := fun u a ha => by
    have hu := (List.getElem?_eq_some_iff.mp ha).1
    exact hR u a (by omega) (by rw [hsplit, List.getElem?_append_left hu]; exact ha)
  have hat : (exq (A ++ q :: B))[(exq A).length + t]? = some q := by
    rw [hsplit, List.getElem?_append_right (by omega), hl, Nat.sub_self, List.getElem?_append_left (by rw [List.length_replicate]; omega), List.getElem?_replicate, if_pos (by omega)]
  obtain ⟨r1, r2, r3⟩ := hR _ q hmy hat
  have hT2 : ∀ u a, (exq A ++ List.replicate t q)[u]? = some a → rd u = tau a.1.1 ∧ kk u = nI a.2 := fun u a h => ⟨(hT u a h).1, (hT u a h).2.2⟩
  have hiw := isw_runs htb hq hA t r1 r3 hT2
  have hdf := dfast_eq hq hA t r1 r3 hT2
  have hwd : m_X5_width (tau q.1.1) = nI (wdN q.1.1) := vs_fin (P := fun s => m_X5_width (tau s) = nI (wdN s)) vs_width hq.1
  obtain ⟨-, n1, n2, p1, -⟩ := hq
  have halike : m_X5_wrong_j67_s0 pl ((exq A).length + t) = decide (2 ≤ t) := by
    have hne : ∀ u, u < (exq A).length → ¬ nI q.1.2.2 = pl u := fun u hu h => by
      have hg : (exq A ++ List.replicate t q)[u]? = some (exq A)[u] := by rw [List.getElem?_append_left hu, List.getElem?_eq_getElem hu]
      have hm := List.getElem_mem hu
      generalize (exq A)[u] = a at hg hm
      have := (hT u a hg).2.1
      rw [this] at h
      have hp := hpl a (exq_mem hm)
      have := (nI_eq (by omega) (by omega)).mp h
      omega
    have heq : ∀ v, v < t → pl ((exq A).length + v) = nI q.1.2.2 := fun v hv => by
      have hg : (exq A ++ List.replicate t q)[(exq A).length + v]? = some q := by
        rw [List.getElem?_append_right (by omega), List.getElem?_replicate, if_pos (by omega)]
      exact (hT _ q hg).2.1
    unfold m_X5_wrong_j67_s0
    by_cases c2 : 2 ≤ t
    · rw [if_neg (by omega), decide_eq_true c2, r2, show (exq A).length + t - 1 = (exq A).length + (t - 1) by omega, show (exq A).length + t - 2 = (exq A).length + (t - 2) by omega, heq (t - 1) (by omega), heq (t - 2) (by omega), if_pos rfl, if_pos rfl]
    · rw [decide_eq_false c2]
      by_cases c1 : (exq A).length + t ≤ 1
      · rw [if_pos c1]
      · rw [if_neg c1, r2]
        by_cases c3 : t = 0
        · rw [if_neg (hne _ (by omega))]
        · rw [if_neg (hne ((exq A).length + t - 2) (by omega))]
          split <;> rfl
  have e106 : bI (m_X5_wrong_j106_s0 rd kk ((exq A).length + t)) = nI (if (isDk q.2 || (flk q.2 && (decide (0 < t) || hasS q.1.1 A))) = true then 1 else 0) := by
    unfold m_X5_wrong_j106_s0
    rw [hdf]
    cases (isDk q.2 || (flk q.2 && (decide (0 < t) || hasS q.1.1 A))) <;> rfl
  have e106b : m_X5_wrong_j106_s0_2 rd kk ((exq A).length + t) = m_X5_wrong_j106_s0 rd kk ((exq A).length + t) := rfl
  rw [m_X5_wrong_L9, if_neg (by omega), halike, hiw, e106b, e106, r1, r2, hwd, nI_add, nI_add, Nat.add_assoc d, ← dgs_step t, show w + wdN q.1.1 * t + wdN q.1.1 = w + wdN q.1.1 * (t + 1) by rw [Nat.mul_succ]; omega]
  have hdl := dgs_le (A := A) (q := q) (t + 1)
  have hwl : wdN q.1.1 * (t + 1) ≤ 2 * 9999 := Nat.mul_le_mul (wdN_le q.1.1) (by omega)
  have q1 : (31 < nI (d + dgs A q (t + 1))) ↔ 31 < d + dgs A q (t + 1) := nI_ltI (a := 31) (by omega) (by omega)
  have q2 : (nI (w + wdN q.1.1 * (t + 1)) ≤ 9999) ↔ w + wdN q.1.1 * (t + 1) ≤ 9999 := nI_leI (b := 9999) (by omega) (by omega)
  simp only [q1, q2]
  by_cases g1 : t < 2 ∧ (!(A.all (fun a => al a.2 q.2)) || (decide (0 < t) && !al q.2 q.2) || rival A q) = true
  · rw [if_pos (show decide (2 ≤ t) = false from decide_eq_false (by omega)), g1.2, if_neg (show ¬ true = false by decide), if_pos (show badT A d w q t from badT_m (Or.inl g1))]
  by_cases g2 : 31 < d + dgs A q (t + 1)
  · rw [if_pos g2, if_pos (show badT A d w q t from badT_m (Or.inr (Or.inl g2)))]
    split
    · split <;> rfl
    · rfl
  by_cases g3 : w + wdN q.1.1 * (t + 1) ≤ 9999
  · rw [if_neg g2, if_pos g3, if_neg (show ¬ badT A d w q t from fun h => by
      rcases badT_e h with h | h | h
      · exact g1 h
      · exact g2 h
      · omega)]
    by_cases c2 : 2 ≤ t
    · rw [decide_eq_true c2, if_neg (show ¬ true = false by decide)]
    · rw [if_pos (show decide (2 ≤ t) = false from decide_eq_false c2), if_pos (Bool.eq_false_iff.mpr (fun h => g1 ⟨by omega, h⟩))]
  · rw [if_neg g2, if_neg g3, if_pos (show badT A d w q t from badT_m (Or.inr (Or.inr (by omega))))]
    split
    · split <;> rfl
    · rfl
theorem wrong_hit (htb : ∀ a, a < 19 → tb a = tbL.getD a 0) {A B : List KRun} {q : KRun} (hA : ∀ a ∈ A, KOK a) (hq : KOK q) (hpl : ∀ a ∈ A, a.1.2.2 < q.1.2.2) (hR : RQ (exq (A ++ q :: B)) rd pl kk my) {d w t0 : Nat} (ht0 : t0 < q.1.2.1) (hmy : (exq A).length + t0 < my) (hd : d ≤ 31) (hw : w ≤ 9999) (hb : badT A d w q t0) : ∀ m t f x3, t + m = t0 → m < f → m_X5_wrong_L9 rd pl kk tb my len f ((exq A).length + t) (nI (d + dgs A q t)) (nI (w + wdN q.1.1 * t)) x3 = nI q.1.2.2 := by
  intro m
  induction m with
  | zero =>
    intro t f x3 h1 h2
    obtain ⟨f, rfl⟩ : ∃ q, f = q + 1 := ⟨f - 1, by omega⟩
    rw [wrong_step htb hA hq hpl hR (by omega) (by omega) hd hw, if_pos (by rw [show t = t0 by omega]; exact hb)]
  | succ m ih =>
    intro t f x3 h1 h2
    obtain ⟨f, rfl⟩ : ∃ q, f = q + 1 := ⟨f - 1, by omega⟩
    rw [wrong_step htb hA hq hpl hR (by omega) (by omega) hd hw]
    split
    · rfl
    · exact ih (t + 1) f _ (by omega) (by omega)
theorem wrong_adv (htb : ∀ a, a < 19 → tb a = tbL.getD a 0) {A B : List KRun} {q : KRun} (hA : ∀ a ∈ A, KOK a) (hq : KOK q) (hpl : ∀ a ∈ A, a.1.2.2 < q.1.2.2) (hR : RQ (exq (A ++ q :: B)) rd pl kk my) {d w : Nat} (hmy : (exq A).length + q.1.2.1 ≤ my) (hd : d ≤ 31) (hw : w ≤ 9999) (hb : ∀ t, t < q.1.2.1 → ¬ badT A d w q t) : ∀ m t f x3, t + m = q.1.2.1 → m < f → 0 < m → m_X5_wrong_L9 rd pl kk tb my len f ((exq A).length + t) (nI (d + dgs A q t)) (nI (w + wdN q.1.1 * t)) x3 = m_X5_wrong_L9 rd pl kk tb my len (f - m) ((exq A).length + q.1.2.1) (nI (d + dgs A q q.1.2.1)) (nI (w + wdN q.1.1 * q.1.2.1)) (nI ((exq A).length + q.1.2.1 - 1)) := by
  intro m
  induction m with
  | zero => intro t f x3 _ _ h; omega
  | succ m ih =>
    intro t f x3 h1 h2 _
    obtain ⟨f, rfl⟩ : ∃ q, f = q + 1 := ⟨f - 1, by omega⟩
    rw [wrong_step htb hA hq hpl hR (by omega) (by omega) hd hw, if_neg (hb t (by omega))]
    by_cases c : m = 0
    · subst c
      rw [show q.1.2.1 = t + 1 by omega, show f + 1 - (0 + 1) = f by omega, show (exq A).length + t + 1 = (exq A).length + (t + 1) by omega, show (exq A).length + (t + 1) - 1 = (exq A).length + t by omega]
    · have := ih (t + 1) f (nI ((exq A).length + t)) (by omega) (by omega) (by omega)
      rw [show f + 1 - (m + 1) = f - m by omega, show (exq A).length + t + 1 = (exq A).length + (t + 1) by omega]
      exact this
theorem kd_zero : ∀ k ∈ vsL, ∀ m b p f : Bool, wdN (nI k) = 0 → (isDk (kd (nI k) m b p f) = true ∨ kd (nI k) m b p f = 14 ∨ kd (nI k) m b p f = 15) := by decide +kernel
theorem al_1415 : al 14 14 = false ∧ al 15 15 = false := by decide +kernel
/-- how many letters runs have -/
def lw (s : Int32) : Nat := if wdN s = 0 then 1 else wdN s
def letN : List KRun → Nat
  | [] => 0
  | q :: Q => lw q.1.1 * q.1.2.1 + letN Q
theorem letN_app (A B : List KRun) : letN (A ++ B) = letN A + letN B := by
  induction A with
  | nil => show letN B = 0 + letN B; omega
  | cons a A ih => show lw a.1.1 * a.1.2.1 + letN (A ++ B) = (lw a.1.1 * a.1.2.1 + letN A) + letN B; rw [ih, Nat.add_assoc]
theorem lw_pos (s : Int32) : 1 ≤ lw s := by unfold lw; split <;> omega
theorem exq_let : ∀ A : List KRun, (exq A).length ≤ letN A := by
  intro A
  induction A with
  | nil => exact Nat.le_refl _
  | cons q A ih =>
    show (List.replicate q.1.2.1 q ++ exq A).length ≤ lw q.1.1 * q.1.2.1 + letN A
    rw [List.length_append, List.length_replicate]
    have : 1 * q.1.2.1 ≤ lw q.1.1 * q.1.2.1 := Nat.mul_le_mul (lw_pos _) (Nat.le_refl _)
    omega
/-- how many signs good runs have -/
def inv (A : List KRun) (d w : Nat) : Prop := ∃ z v, z ≤ 1 ∧ v ≤ 1 ∧ (z = 1 → ∃ a ∈ A, a.2 = 14) ∧ (v = 1 → ∃ a ∈ A, a.2 = 15) ∧ letN A ≤ w + d + z + v ∧ d ≤ 31 ∧ w ≤ 9999
theorem exq_len1 (A : List KRun) (q : KRun) : (exq (A ++ [q])).length = (exq A).length + q.1.2.1 := by
  rw [exq_app, List.length_append]
  show (exq A).length + (List.replicate q.1.2.1 q ++ []).length = _
  rw [List.append_nil, List.length_replicate]
theorem inv_step {A : List KRun} {d w : Nat} {q : KRun} (h : inv A d w) (hq : KOK q) (ho : okq A d w q) : inv (A ++ [q]) (d + dgs A q q.1.2.1) (w + wdN q.1.1 * q.1.2.1) := by
  obtain ⟨z, v, hz, hv, hz1, hv1, hl, hd, hw⟩ := h
  obtain ⟨o1, o2, o3, o4, o5⟩ := okq_e ho
  obtain ⟨-, n1, n2, -, -⟩ := id hq
  have hall := List.all_eq_true.mp o1
  have up : ∀ {k : Nat}, (∃ a ∈ A, a.2 = k) → ∃ a ∈ A ++ [q], a.2 = k := fun ⟨a, ha, e⟩ => ⟨a, List.mem_append_left _ ha, e⟩
  have hself : q ∈ A ++ [q] := List.mem_append_right _ (List.mem_singleton.mpr rfl)
  unfold inv
  rw [letN_app, show letN [q] = lw q.1.1 * q.1.2.1 from Nat.add_zero _]
  by_cases c0 : wdN q.1.1 = 0
  · have hlw : lw q.1.1 * q.1.2.1 = q.1.2.1 := by unfold lw; rw [if_pos c0, Nat.one_mul]
    rw [hlw]
    rcases kok_of hq (P := fun s k => wdN s = 0 → (isDk k = true ∨ k = 14 ∨ k = 15)) kd_zero c0 with e | e | e
    · refine ⟨z, v, hz, hv, fun h => up (hz1 h), fun h => up (hv1 h), ?_, o4, o5⟩
      have : dgs A q q.1.2.1 = q.1.2.1 := by unfold dgs; rw [if_pos e]
      omega
    · have hn : q.1.2.1 = 1 := by
        rcases Nat.lt_or_ge 1 q.1.2.1 with c | c
        · have := o2 c; rw [e, al_1415.1] at this; cases this
        · omega
      have hz0 : z = 0 := by
        rcases Nat.lt_or_ge 0 z with c | c
        · obtain ⟨a, ha, ea⟩ := hz1 (by omega)
          have := hall a ha
          rw [ea, e, al_1415.1] at this; cases this
        · omega
      exact ⟨1, v, by omega, hv, fun _ => ⟨q, hself, e⟩, fun h => up (hv1 h), by omega, o4, o5⟩
    · have hn : q.1.2.1 = 1 := by
        rcases Nat.lt_or_ge 1 q.1.2.1 with c | c
        · have := o2 c; rw [e, al_1415.2] at this; cases this
        · omega
      have hv0 : v = 0 := by
        rcases Nat.lt_or_ge 0 v with c | c
        · obtain ⟨a, ha, ea⟩ := hv1 (by omega)
          have := hall a ha
          rw [ea, e, al_1415.2] at this; cases this
        · omega
      exact ⟨z, 1, hz, by omega, fun h => up (hz1 h), fun _ => ⟨q, hself, e⟩, by omega, o4, o5⟩
  · refine ⟨z, v, hz, hv, fun h => up (hz1 h), fun h => up (hv1 h), ?_, o4, o5⟩
    have : lw q.1.1 = wdN q.1.1 := by unfold lw; rw [if_neg c0]
    rw [this]
    omega
theorem ok_nobad {A : List KRun} {d w : Nat} {q : KRun} (ho : okq A d w q) : ∀ t, t < q.1.2.1 → ¬ badT A d w q t := by
  obtain ⟨o1, o2, o3, o4, o5⟩ := okq_e ho
  intro t ht h
  rcases badT_e h with ⟨h1, h2⟩ | h | h
  · rw [o1, o3] at h2
    by_cases c : 0 < t
    · rw [o2 (by omega), decide_eq_true c] at h2
      exact absurd h2 (by decide)
    · rw [decide_eq_false c] at h2; exact absurd h2 (by cases al q.2 q.2 <;> decide)
  · have := dgs_mono (A := A) (q := q) (t := t + 1) (u := q.1.2.1) (by omega); omega
  · have : wdN q.1.1 * (t + 1) ≤ wdN q.1.1 * q.1.2.1 := Nat.mul_le_mul (Nat.le_refl _) (by omega)
    omega
theorem bad_at {A : List KRun} {d w : Nat} {q : KRun} (hi : inv A d w) (hq : KOK q) (ho : ¬ okq A d w q) : ∃ t0, t0 < q.1.2.1 ∧ (exq A).length + t0 < 10200 ∧ badT A d w q t0 := by
  obtain ⟨z, v, hz, hv, -, -, hl, hd, hw⟩ := hi
  have hl := Nat.le_trans (exq_let A) hl
  obtain ⟨-, n1, n2, -, -⟩ := id hq
  by_cases g1 : A.all (fun a => al a.2 q.2) = true
  · by_cases g2 : rival A q = true
    · exact ⟨0, by omega, by omega, badT_m (Or.inl ⟨by omega, by rw [g2, Bool.or_true]⟩)⟩
    · by_cases g3 : 1 < q.1.2.1 ∧ ¬ al q.2 q.2 = true
      · refine ⟨1, g3.1, by omega, badT_m (Or.inl ⟨by omega, ?_⟩)⟩
        rw [Bool.eq_false_iff.mpr g3.2, g1]; cases rival A q <;> rfl
      · by_cases g4 : d + dgs A q q.1.2.1 ≤ 31
        · have g5 : ¬ w + wdN q.1.1 * q.1.2.1 ≤ 9999 := fun g5 => ho (okq_m ⟨g1, fun h => Classical.byContradiction (fun h2 => g3 ⟨h, h2⟩), Bool.eq_false_iff.mpr g2, g4, g5⟩)
          have hc := wdN_le q.1.1
          rcases (show wdN q.1.1 = 0 ∨ wdN q.1.1 = 1 ∨ wdN q.1.1 = 2 by omega) with e | e | e
          · rw [e] at g5; omega
          · rw [e] at g5
            refine ⟨9999 - w, by omega, by omega, badT_m (Or.inr (Or.inr ?_))⟩
            rw [e]; omega
          · rw [e] at g5
            refine ⟨(9999 - w) / 2, by omega, by omega, badT_m (Or.inr (Or.inr ?_))⟩
            rw [e]; omega
        · by_cases e1 : isDk q.2 = true ∨ (flk q.2 = true ∧ hasS q.1.1 A = true)
          · have hdg : ∀ t, dgs A q t = t := fun t => by
              unfold dgs
              rcases e1 with e | ⟨e, e2⟩
              · rw [if_pos e]
              · rw [if_pos e, if_pos e2]; split <;> rfl
            rw [hdg] at g4
            exact ⟨31 - d, by omega, by omega, badT_m (Or.inr (Or.inl (by rw [hdg]; omega)))⟩
          · have e2 : ¬ isDk q.2 = true := fun h => e1 (Or.inl h)
            by_cases e3 : flk q.2 = true
            · have e4 : ¬ hasS q.1.1 A = true := fun h => e1 (Or.inr ⟨e3, h⟩)
              have hdg : ∀ t, dgs A q t = t - 1 := fun t => by
                unfold dgs
                rw [if_neg e2, if_pos e3, if_neg e4]
              rw [hdg] at g4
              exact ⟨32 - d, by omega, by omega, badT_m (Or.inr (Or.inl (by rw [hdg]; omega)))⟩
            · have hdg : dgs A q q.1.2.1 = 0 := by
                unfold dgs
                rw [if_neg e2, if_neg e3]
              omega
  · exact ⟨0, by omega, by omega, badT_m (Or.inl ⟨by omega, by rw [Bool.eq_false_iff.mpr g1]; rfl⟩)⟩
theorem fm_ref (htb : ∀ a, a < 19 → tb a = tbL.getD a 0) {Q : List KRun} (hK : ∀ q ∈ Q, KOK q) (hpw : Q.Pairwise (fun a b => a.1.2.2 < b.1.2.2)) (hmy : my = min 10200 (exq Q).length) (hR : RQ (exq Q) rd pl kk my) : ∀ (S A : List KRun) d w f x3, Q = A ++ S → inv A d w → my < (exq A).length + f → (x3 = -1 → A = []) →
    m_X5_wrong_L9 rd pl kk tb my len f (exq A).length (nI d) (nI w) x3 = match fm A d w S with | some p => nI p | none => if m_X5_hasMain kk my = false then nI len else -1 := by
  intro S
  induction S with
  | nil =>
    intro A d w f x3 hQ hi hf hx
    rw [List.append_nil] at hQ
    obtain ⟨z, v, hz, hv, -, -, hl, hd, hw⟩ := hi
    have hl := Nat.le_trans (exq_let A) hl
    obtain ⟨f, rfl⟩ : ∃ q, f = q + 1 := ⟨f - 1, by rw [hQ] at hmy; omega⟩
    rw [m_X5_wrong_L9, if_pos (by rw [hmy, hQ]; omega)]
    show _ = if m_X5_hasMain kk my = false then nI len else -1
    by_cases c : x3 = -1
    · rw [if_pos c]
      have hm0 : my = 0 := by rw [hmy, hQ, hx c]; rfl
      rw [hm0]; rfl
    · rw [if_neg c]
  | cons q S ih =>
    intro A d w f x3 hQ hi hf hx
    have hqm : q ∈ Q := by rw [hQ]; exact List.mem_append_right _ (List.mem_cons_self ..)
    have hq := hK q hqm
    have hA : ∀ a ∈ A, KOK a := fun a ha => hK a (by rw [hQ]; exact List.mem_append_left _ ha)
    have hpl : ∀ a ∈ A, a.1.2.2 < q.1.2.2 := fun a ha => by
      rw [hQ] at hpw
      exact (List.pairwise_append.mp hpw).2.2 a ha q (List.mem_cons_self ..)
    have hR' : RQ (exq (A ++ q :: S)) rd pl kk my := by rw [← hQ]; exact hR
    have hlen : (exq A).length + q.1.2.1 ≤ (exq Q).length := by
      rw [hQ, exq_app, List.length_append]
      show _ ≤ _ + (List.replicate q.1.2.1 q ++ exq S).length
      rw [List.length_append, List.length_replicate]; omega
    obtain ⟨z, v, hz, hv, -, -, hl, hd, hw⟩ := id hi
    have hl := Nat.le_trans (exq_let A) hl
    obtain ⟨-, n1, n2, -, -⟩ := id hq
    show _ = match (if okq A d w q then fm (A ++ [q]) (d + dgs A q q.1.2.1) (w + wdN q.1.1 * q.1.2.1) S else some q.1.2.2) with | some p => nI p | none => if m_X5_hasMain kk my = false then nI len else -1
    have e0 : dgs A q 0 = 0 := by have := dgs_le (A := A) (q := q) 0; omega
    by_cases ho : okq A d w q
    · rw [if_pos ho]
      have hi2 := inv_step hi hq ho
      have hle : (exq A).length + q.1.2.1 ≤ my := by
        obtain ⟨z2, v2, hz2, hv2, -, -, hl2, hd2, hw2⟩ := id hi2
        have hl2 := Nat.le_trans (exq_let _) hl2
        rw [exq_len1] at hl2
        omega
      have := wrong_adv (len := len) htb hA hq hpl hR' hle hd hw (ok_nobad ho) q.1.2.1 0 f x3 (by omega) (by omega) (by omega)
      rw [e0, Nat.mul_zero, Nat.add_zero, Nat.add_zero, Nat.add_zero] at this
      rw [this, ← exq_len1]
      exact ih (A ++ [q]) _ _ (f - q.1.2.1) _ (by rw [hQ, List.append_assoc]; rfl) hi2 (by rw [exq_len1]; omega) (fun h => absurd h (nI_nm1 (by rw [exq_len1]; omega)))
    · rw [if_neg ho]
      obtain ⟨t0, h1, h2, h3⟩ := bad_at hi hq ho
      have := wrong_hit (len := len) htb hA hq hpl hR' h1 (by omega) hd hw h3 t0 0 f x3 (by omega) (by omega)
      rw [e0, Nat.mul_zero, Nat.add_zero, Nat.add_zero, Nat.add_zero] at this
      exact this
theorem main_tab : ∀ k, k < 19 → ∀ x : Bool, (if x = false then (if nI k ≤ 5 then (if nI k = 18 then true else false) else (if nI k < 14 then true else (if nI k = 18 then true else false))) else true) = (x || (decide (5 < k) && decide (k < 14) || k == 18)) := by decide +kernel
def mainK (k : Nat) : Bool := decide (5 < k) && decide (k < 14) || k == 18
theorem hasMain_run : ∀ (T : List KRun) f i x, (∀ t a, T[t]? = some a → kk (i + t) = nI a.2) → (∀ a ∈ T, a.2 < 19) → my = i + T.length → T.length < f → m_X5_hasMain_L4 kk my f i x = (x || T.any (fun a => mainK a.2)) := by
  intro T
  induction T with
  | nil =>
    intro f i x _ _ hm hf
    obtain ⟨f, rfl⟩ : ∃ q, f = q + 1 := ⟨f - 1, by omega⟩
    rw [m_X5_hasMain_L4, if_pos (by rw [hm]; simp)]
    show x = (x || false); rw [Bool.or_false]
  | cons a T ih =>
    intro f i x hT hK hm hf
    obtain ⟨f, rfl⟩ : ∃ q, f = q + 1 := ⟨f - 1, by omega⟩
    rw [List.length_cons] at hm hf
    have a1 := hT 0 a rfl
    rw [Nat.add_zero] at a1
    rw [m_X5_hasMain_L4, if_neg (by omega), ih f (i + 1) _ (fun t r' hr => by rw [show i + 1 + t = i + (t + 1) by omega]; exact hT (t + 1) r' hr) (fun x hx => hK x (List.mem_cons_of_mem _ hx)) (by omega) (by omega)]
    unfold m_X5_hasMain_j53_s0
    rw [a1, main_tab a.2 (hK a (List.mem_cons_self ..))]
    show _ = (x || (mainK a.2 || T.any (fun a => mainK a.2)))
    rw [← Bool.or_assoc x (mainK a.2)]; rfl
end WRL
theorem pres_bits : ∀ k, k < 19 → (((1 : Int32) <<< (nI k &&& 31)) &&& 278464 = 0 ↔ mainK k = false) := by decide +kernel
theorem present_run {ks : Nat → Int32} {sz : Nat} {m : Int32} {p : Nat → Bool} (hp : ∀ k, k < 19 → (((1 : Int32) <<< (nI k &&& 31)) &&& m = 0 ↔ p k = false)) : ∀ (T : List KRun) f i x, (∀ t a, T[t]? = some a → ks (i + t) = nI a.2) → (∀ a ∈ T, a.2 < 19) → sz = i + T.length → T.length < f → (m_X2_kindsPresent_L4 ks sz f i x &&& m = 0 ↔ (x &&& m = 0 ∧ T.any (fun a => p a.2) = false)) := by
  intro T
  induction T with
  | nil =>
    intro f i x _ _ hm hf
    obtain ⟨f, rfl⟩ : ∃ q, f = q + 1 := ⟨f - 1, by omega⟩
    rw [m_X2_kindsPresent_L4, if_pos (by rw [hm]; simp)]
    exact ⟨fun h => ⟨h, rfl⟩, fun h => h.1⟩
  | cons a T ih =>
    intro f i x hT hK hm hf
    obtain ⟨f, rfl⟩ : ∃ q, f = q + 1 := ⟨f - 1, by omega⟩
    rw [List.length_cons] at hm hf
    have a1 := hT 0 a rfl
    rw [Nat.add_zero] at a1
    rw [m_X2_kindsPresent_L4, if_neg (by omega), ih f (i + 1) _ (fun t r' hr => by rw [show i + 1 + t = i + (t + 1) by omega]; exact hT (t + 1) r' hr) (fun x hx => hK x (List.mem_cons_of_mem _ hx)) (by omega) (by omega), a1, i32_dist, Int32.or_eq_zero_iff, hp a.2 (hK a (List.mem_cons_self ..))]
    show _ ↔ (_ ∧ (p a.2 || T.any (fun a => p a.2)) = false)
    rw [Bool.or_eq_false_iff, and_assoc]
theorem present_eq {ks : Nat → Int32} {Q : List KRun} {m : Int32} {p : Nat → Bool} (hp : ∀ k, k < 19 → (((1 : Int32) <<< (nI k &&& 31)) &&& m = 0 ↔ p k = false)) (hk : ∀ t a, Q[t]? = some a → ks t = nI a.2) (hK : ∀ q ∈ Q, KOK q) : m_X2_kindsPresent ks Q.length &&& m = 0 ↔ Q.any (fun a => p a.2) = false := by
  have := present_run (ks := ks) (sz := Q.length) hp Q (Q.length + 1) 0 0 (fun t a h => by rw [Nat.zero_add]; exact hk t a h) (fun a ha => kok_lt (hK a ha)) (by omega) (by omega)
  refine this.trans ⟨fun h => h.2, fun h => ⟨?_, h⟩⟩
  exact Int32.zero_and
/-- both readings, once the signs are taken: the same answer -/
theorem wrong_same {R : List Run} {ss ts ps ks ds rd pl kk tb : Nat → Int32} {my len : Nat} {pu mi ms : Int32} (hO : OKR R) (hpw : R.Pairwise (fun a b => a.2.2 < b.2.2)) (hC : CR R ss ts ps) (hR : RR R rd pl my pu mi ms) (htb : ∀ a, a < 19 → tb a = tbL.getD a 0) :
    m_X5_wrong rd pl (m_X5_sorts rd kk my pu mi ms) tb my len = (match fm [] 0 0 (anR R) with | some p => nI p | none => if (anR R).any (fun a => mainK a.2) = false then nI len else -1) ∧ (fm [] 0 0 (anR R) = none → my = (exq (anR R)).length ∧ ∃ d w, inv (anR R) d w) := by
  have hK : ∀ q ∈ anR R, KOK q := ann_kok (mny R) R false true true hO.2
  have hmap : (anR R).map (·.1) = R := ann_map (mny R) R false true true
  have hpw' : (anR R).Pairwise (fun a b => a.1.2.2 < b.1.2.2) := by
    rw [← hmap] at hpw
    exact (List.pairwise_map (R := fun a b : Run => a.2.2 < b.2.2) (f := fun q : KRun => q.1)).mp hpw
  obtain ⟨hmy, hRQ⟩ := RQ_of (kk := kk) hO hR
  have hinv0 : inv [] 0 0 := ⟨0, 0, by omega, by omega, by omega, by omega, Nat.le_refl _, by omega, by omega⟩
  have hfm := fm_ref (len := len) htb hK hpw' hmy hRQ (anR R) [] 0 0 (my + 1) (-1) rfl hinv0 (by show my < 0 + (my + 1); omega) (fun _ => rfl)
  have hinvs : ∀ (S A : List KRun) d w, anR R = A ++ S → inv A d w → fm A d w S = none → ∃ d w, inv (anR R) d w := by
    intro S
    induction S with
    | nil => intro A d w hQ hi _; rw [List.append_nil] at hQ; rw [hQ]; exact ⟨d, w, hi⟩
    | cons q S ih =>
      intro A d w hQ hi hn
      have hn' : (if okq A d w q then fm (A ++ [q]) (d + dgs A q q.1.2.1) (w + wdN q.1.1 * q.1.2.1) S else some q.1.2.2) = none := hn
      by_cases ho : okq A d w q
      · rw [if_pos ho] at hn'
        exact ih (A ++ [q]) _ _ (by rw [hQ, List.append_assoc]; rfl) (inv_step hi (hK q (by rw [hQ]; exact List.mem_append_right _ (List.mem_cons_self ..))) ho) hn'
      · rw [if_neg ho] at hn'; cases hn'
  have hgood : fm [] 0 0 (anR R) = none → my = (exq (anR R)).length ∧ ∃ d w, inv (anR R) d w := fun hn => by
    obtain ⟨d, w, hi⟩ := hinvs (anR R) [] 0 0 rfl hinv0 hn
    refine ⟨?_, d, w, hi⟩
    obtain ⟨z, v, hz, hv, -, -, hl, hd, hw⟩ := hi
    have hl := Nat.le_trans (exq_let _) hl
    omega
  refine ⟨?_, hgood⟩
  show m_X5_wrong_L9 rd pl _ tb my len (my + 1) 0 0 0 (-1) = _
  have hfm' : m_X5_wrong_L9 rd pl (m_X5_sorts rd kk my pu mi ms) tb my len (my + 1) 0 0 0 (-1) = _ := hfm
  rw [hfm']
  cases hc : fm [] 0 0 (anR R) with
  | some p => rfl
  | none =>
    obtain ⟨hm, -⟩ := hgood hc
    have hm1 : m_X5_hasMain (m_X5_sorts rd kk my pu mi ms) my = (anR R).any (fun a => mainK a.2) := by
      have := hasMain_run (kk := m_X5_sorts rd kk my pu mi ms) (my := my) (exq (anR R)) (my + 1) 0 false (fun t a h => by rw [Nat.zero_add]; exact (hRQ t a (by rw [hm]; exact (List.getElem?_eq_some_iff.mp h).1) h).2.2) (fun a ha => kok_lt (hK a (exq_mem ha))) (by omega) (by omega)
      rw [Bool.false_or, exq_any hK] at this
      exact this
    show (if m_X5_hasMain _ my = false then nI len else -1) = _
    rw [hm1]
