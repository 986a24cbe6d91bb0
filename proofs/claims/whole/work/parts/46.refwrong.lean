/-! the mathematics, 7: the reference's first sign that can't be there -/
def exq : List KRun → List KRun
  | [] => []
  | q :: Q => List.replicate q.1.2.1 q ++ exq Q
theorem exq_app (A B : List KRun) : exq (A ++ B) = exq A ++ exq B := by
  induction A with
  | nil => rfl
  | cons a A ih => show List.replicate _ a ++ exq (A ++ B) = (List.replicate _ a ++ exq A) ++ exq B; rw [ih, List.append_assoc]
theorem exq_ex : ∀ Q : List KRun, (exq Q).map (fun q => (tau q.1.1, q.1.2.2)) = ex (Q.map (·.1)) := by
  intro Q
  induction Q with
  | nil => rfl
  | cons q Q ih => show (List.replicate _ q ++ exq Q).map _ = List.replicate _ _ ++ ex (Q.map (·.1)); rw [List.map_append, List.map_replicate, ih]
theorem exq_exk : ∀ Q : List KRun, (exq Q).map (·.2) = exk Q := by
  intro Q
  induction Q with
  | nil => rfl
  | cons q Q ih => show (List.replicate _ q ++ exq Q).map _ = List.replicate _ _ ++ exk Q; rw [List.map_append, List.map_replicate, ih]
theorem exq_any {f : KRun → Bool} : ∀ {Q : List KRun}, (∀ q ∈ Q, KOK q) → (exq Q).any f = Q.any f := by
  intro Q
  induction Q with
  | nil => intro _; rfl
  | cons q Q ih =>
    intro h
    obtain ⟨-, n1, -⟩ := h q (List.mem_cons_self ..)
    show (List.replicate q.1.2.1 q ++ exq Q).any f = (f q || Q.any f)
    rw [List.any_append, ih (fun q' hq => h q' (List.mem_cons_of_mem _ hq)), List.any_replicate, if_neg (by omega)]
theorem exq_mem {x : KRun} : ∀ {Q : List KRun}, x ∈ exq Q → x ∈ Q := by
  intro Q
  induction Q with
  | nil => intro h; cases h
  | cons q Q ih =>
    intro h
    rcases List.mem_append.mp (show x ∈ List.replicate q.1.2.1 q ++ exq Q from h) with e | e
    · rw [(List.mem_replicate.mp e).2]; exact List.mem_cons_self ..
    · exact List.mem_cons_of_mem _ (ih e)
/-- the reference's rows -/
def RQ (E : List KRun) (rd pl kk : Nat → Int32) (my : Nat) : Prop := ∀ j q, j < my → E[j]? = some q → rd j = tau q.1.1 ∧ pl j = nI q.1.2.2 ∧ kk j = nI q.2
theorem RQ_of {R : List Run} {rd pl kk : Nat → Int32} {my : Nat} {pu mi ms : Int32} (hO : OKR R) (hR : RR R rd pl my pu mi ms) : my = min 10200 (exq (anR R)).length ∧ RQ (exq (anR R)) rd pl (m_X5_sorts rd kk my pu mi ms) my := by
  have hmap : (anR R).map (·.1) = R := ann_map (mny R) R false true true
  have h1 := exq_ex (anR R)
  rw [hmap] at h1
  refine ⟨?_, fun j q hj hq => ?_⟩
  · rw [hR.1, ← h1, List.length_map]
  · have e1 : (ex R)[j]? = some (tau q.1.1, q.1.2.2) := by rw [← h1, List.getElem?_map, hq]; rfl
    have e2 : (exk (anR R))[j]? = some q.2 := by rw [← exq_exk, List.getElem?_map, hq]; rfl
    obtain ⟨g1, g2⟩ := hR.2.1 j _ hj e1
    exact ⟨g1, g2, sorts_eq hO hR j _ hj e2⟩
theorem tau_inj : ∀ a ∈ vsL, ∀ b ∈ vsL, tau (nI a) = tau (nI b) → nI a = nI b := by decide +kernel
theorem vs_inj {s t : Int32} (hs : VS s) (ht : VS t) : tau s = tau t ↔ s = t := by
  obtain ⟨a, ha, rfl⟩ := hs
  obtain ⟨b, hb, rfl⟩ := ht
  exact ⟨tau_inj a ha b hb, fun h => by rw [h]⟩
theorem tau_is : ∀ k ∈ vsL, (tau (nI k) = 90 ↔ nI k = 90) ∧ (tau (nI k) = 42 ↔ nI k = 42) ∧ (tau (nI k) = 43 ↔ nI k = 43) ∧ (tau (nI k) = 45 ↔ nI k = 45) := by decide +kernel
/-- isWrong's answer out of what was seen -/
def finW (s : Int32) (k : Nat) (b2 b3 b4 b5 b6 : Bool) : Bool := b2 || (s == 90 && b4) || (s == 42 && b3) || ((k == 8 || k == 9) && (if s = 43 then b6 else b5))
section ISW
variable {rd kk tb : Nat → Int32}
theorem isw_run (htb : ∀ a, a < 19 → tb a = tbL.getD a 0) {k : Nat} {q : KRun} (hq : KOK q) (hrd : rd k = tau q.1.1) (hkk : kk k = nI q.2) : ∀ (T : List KRun) f j b2 b3 b4 b5 b6, (∀ t a, T[t]? = some a → rd (j + t) = tau a.1.1 ∧ kk (j + t) = nI a.2) → (∀ a ∈ T, KOK a) → k = j + T.length → T.length < f →
    m_X5_isWrong_L16 rd kk tb k f j (bI b2) b3 b4 b5 b6 = finW q.1.1 q.2 (b2 || T.any (fun a => !al a.2 q.2)) (b3 || hasS 90 T) (b4 || hasS 42 T) (b5 || hasS 43 T) (b6 || hasS 45 T) := by
  intro T
  have hk19 := kok_lt hq
  obtain ⟨t1, t2, t3, t4⟩ := vs_fin (P := fun s => (tau s = 90 ↔ s = 90) ∧ (tau s = 42 ↔ s = 42) ∧ (tau s = 43 ↔ s = 43) ∧ (tau s = 45 ↔ s = 45)) tau_is hq.1
  induction T with
  | nil =>
    intro f j b2 b3 b4 b5 b6 _ _ hk hf
    obtain ⟨f, rfl⟩ : ∃ q, f = q + 1 := ⟨f - 1, by omega⟩
    rw [m_X5_isWrong_L16, if_pos (by rw [hk]; simp)]
    show _ = finW q.1.1 q.2 (b2 || false) (b3 || false) (b4 || false) (b5 || false) (b6 || false)
    rw [Bool.or_false, Bool.or_false, Bool.or_false, Bool.or_false, Bool.or_false, hrd]
    have e8 : m_X5_isWrong_j181_s0 kk k = (q.2 == 8 || q.2 == 9) := by
      unfold m_X5_isWrong_j181_s0
      rw [hkk]
      have h1 : (nI q.2 = 8) ↔ q.2 = 8 := nI_eq (b := 8) (by omega) (by omega)
      have h2 : (nI q.2 = 9) ↔ q.2 = 9 := nI_eq (b := 9) (by omega) (by omega)
      simp only [h1, h2]
      by_cases c1 : q.2 = 8
      · rw [if_pos c1, c1]; rfl
      · rw [if_neg c1]
        by_cases c2 : q.2 = 9
        · rw [if_pos c2, c2]; rfl
        · rw [if_neg c2, beq_eq_false_iff_ne.mpr c1, beq_eq_false_iff_ne.mpr c2]; rfl
    rw [e8]
    simp only [t1, t2, t3]
    unfold finW
    have hb2 : (0 < bI b2) ↔ b2 = true := by cases b2 <;> decide
    simp only [hb2]
    by_cases s1 : q.1.1 = 90
    · rw [s1]
      rw [if_neg (show ¬ (90 : Int32) = 42 by decide), if_neg (show ¬ (90 : Int32) = 43 by decide), if_neg (show ¬ (90 : Int32) = 43 by decide)]
      cases b2 <;> cases b4 <;> cases (q.2 == 8 || q.2 == 9) <;> cases b5 <;> rfl
    · rw [if_neg s1, beq_eq_false_iff_ne.mpr s1]
      by_cases s2 : q.1.1 = 42
      · rw [s2, if_pos (show (42 : Int32) = 42 from rfl), if_neg (show ¬ (42 : Int32) = 43 by decide), if_neg (show ¬ (42 : Int32) = 43 by decide)]
        cases b2 <;> cases b3 <;> cases (q.2 == 8 || q.2 == 9) <;> cases b5 <;> rfl
      · rw [if_neg s2, beq_eq_false_iff_ne.mpr s2]
        by_cases s3 : q.1.1 = 43
        · rw [if_pos s3, if_pos s3]
          cases b2 <;> cases (q.2 == 8 || q.2 == 9) <;> cases b6 <;> rfl
        · rw [if_neg s3, if_neg s3]
          cases b2 <;> cases (q.2 == 8 || q.2 == 9) <;> cases b5 <;> rfl
  | cons a T ih =>
    intro f j b2 b3 b4 b5 b6 hT hKT hk hf
    obtain ⟨f, rfl⟩ : ∃ q, f = q + 1 := ⟨f - 1, by omega⟩
    rw [List.length_cons] at hk hf
    obtain ⟨a1, a2⟩ := hT 0 a rfl
    rw [Nat.add_zero] at a1 a2
    have hka := hKT a (List.mem_cons_self ..)
    have ha19 := kok_lt hka
    obtain ⟨u1, u2, u3, u4⟩ := vs_fin (P := fun s => (tau s = 90 ↔ s = 90) ∧ (tau s = 42 ↔ s = 42) ∧ (tau s = 43 ↔ s = 43) ∧ (tau s = 45 ↔ s = 45)) tau_is hka.1
    have or1 : ∀ (b : Bool) (x y : Int32), (x = y ↔ a.1.1 = y) → (if b = false then (if x = y then true else false) else true) = (b || a.1.1 == y) := fun b x y h => by
      by_cases c : a.1.1 = y
      · rw [if_pos (h.mpr c), beq_iff_eq.mpr c]; cases b <;> rfl
      · rw [if_neg (fun z => c (h.mp z)), beq_eq_false_iff_ne.mpr c]; cases b <;> rfl
    have e2 : bI b2 ||| bI (m_X5_isWrong_j52_s0 kk tb k j) = bI (b2 || !al a.2 q.2) := by
      have : m_X5_isWrong_j52_s0 kk tb k j = !al a.2 q.2 := by
        unfold m_X5_isWrong_j52_s0 al m_X4_holds
        rw [a2, hkk, nI_clamp (by omega), htb _ ha19]
        split <;> rfl
      rw [this]
      cases b2 <;> cases al a.2 q.2 <;> decide
    rw [m_X5_isWrong_L16, if_neg (by omega), e2]
    unfold m_X5_isWrong_j75_s0 m_X5_isWrong_j98_s0 m_X5_isWrong_j122_s0 m_X5_isWrong_j146_s0
    rw [a1, or1 b3 _ _ u1, or1 b4 _ _ u2, or1 b5 _ _ u3, or1 b6 _ _ u4, ih f (j + 1) _ _ _ _ _ (fun t r' hr => by rw [show j + 1 + t = j + (t + 1) by omega]; exact hT (t + 1) r' hr) (fun x hx => hKT x (List.mem_cons_of_mem _ hx)) (by omega) (by omega)]
    show _ = finW q.1.1 q.2 (b2 || (!al a.2 q.2 || T.any (fun a => !al a.2 q.2))) (b3 || (a.1.1 == 90 || hasS 90 T)) (b4 || (a.1.1 == 42 || hasS 42 T)) (b5 || (a.1.1 == 43 || hasS 43 T)) (b6 || (a.1.1 == 45 || hasS 45 T))
    rw [Bool.or_assoc, Bool.or_assoc, Bool.or_assoc, Bool.or_assoc, Bool.or_assoc]
theorem isw_eq (htb : ∀ a, a < 19 → tb a = tbL.getD a 0) {q : KRun} (hq : KOK q) (T : List KRun) (hrd : rd T.length = tau q.1.1) (hkk : kk T.length = nI q.2) (hT : ∀ t a, T[t]? = some a → rd t = tau a.1.1 ∧ kk t = nI a.2) (hK : ∀ a ∈ T, KOK a) :
    m_X5_isWrong rd kk tb T.length = finW q.1.1 q.2 (T.any (fun a => !al a.2 q.2)) (hasS 90 T) (hasS 42 T) (hasS 43 T) (hasS 45 T) := by
  have := isw_run htb hq hrd hkk T (T.length + 1) 0 false false false false false (fun t a h => by rw [Nat.zero_add]; exact hT t a h) hK (by omega) (by omega)
  simp only [Bool.false_or] at this
  exact this
/-- the same, by runs: at the sign t of the run q behind the runs A -/
theorem isw_runs (htb : ∀ a, a < 19 → tb a = tbL.getD a 0) {q : KRun} (hq : KOK q) {A : List KRun} (hA : ∀ a ∈ A, KOK a) (t : Nat) (hrd : rd ((exq A).length + t) = tau q.1.1) (hkk : kk ((exq A).length + t) = nI q.2) (hT : ∀ u a, (exq A ++ List.replicate t q)[u]? = some a → rd u = tau a.1.1 ∧ kk u = nI a.2) :
    m_X5_isWrong rd kk tb ((exq A).length + t) = (!(A.all (fun a => al a.2 q.2)) || (decide (0 < t) && !al q.2 q.2) || rival A q) := by
  have hl : (exq A ++ List.replicate t q).length = (exq A).length + t := by rw [List.length_append, List.length_replicate]
  have h := isw_eq (rd := rd) (kk := kk) htb hq (exq A ++ List.replicate t q) (by rw [hl]; exact hrd) (by rw [hl]; exact hkk) hT (fun a ha => by
    rcases List.mem_append.mp ha with e | e
    · exact hA a (exq_mem e)
    · rw [(List.mem_replicate.mp e).2]; exact hq)
  rw [hl] at h
  rw [h]
  have any1 : ∀ f : KRun → Bool, (exq A ++ List.replicate t q).any f = (A.any f || (decide (0 < t) && f q)) := fun f => by
    rw [List.any_append, exq_any hA, List.any_replicate]
    by_cases c : t = 0
    · rw [if_pos c, decide_eq_false (by omega)]; rfl
    · rw [if_neg c, decide_eq_true (by omega)]; rfl
  unfold hasS
  rw [any1, any1, any1, any1, any1]
  have hall : A.any (fun a => !al a.2 q.2) = !(A.all (fun a => al a.2 q.2)) := by
    rw [List.not_all_eq_any_not]
  rw [hall]
  unfold finW rival
  obtain ⟨p1, p2⟩ := kok_of hq (P := fun s k => (s = 43 ∨ s = 45 → flk k = (k == 8 || k == 9)) ∧ ((k == 8 || k == 9) = true → s = 43 ∨ s = 45)) pm_flk
  show _ = (_ || _ || (if q.1.1 = 42 then A.any (fun a => a.1.1 == 90) else (if q.1.1 = 43 then flk q.2 && A.any (fun a => a.1.1 == 45) else (if q.1.1 = 45 then flk q.2 && A.any (fun a => a.1.1 == 43) else (if q.1.1 = 90 then A.any (fun a => a.1.1 == 42) else false)))))
  generalize (!(A.all (fun a => al a.2 q.2))) = c0
  generalize A.any (fun a => a.1.1 == 90) = c90
  generalize A.any (fun a => a.1.1 == 42) = c42
  generalize A.any (fun a => a.1.1 == 43) = c43
  generalize A.any (fun a => a.1.1 == 45) = c45
  generalize decide (0 < t) = c1
  generalize al q.2 q.2 = c2
  by_cases s1 : q.1.1 = 90
  · have hf : (q.2 == 8 || q.2 == 9) = false := by
      cases hh : (q.2 == 8 || q.2 == 9) with
      | false => rfl
      | true => exact absurd s1 (by rcases p2 hh with e | e <;> rw [e] <;> decide)
    rw [hf, s1]
    cases c0 <;> cases c1 <;> cases c2 <;> cases c42 <;> rfl
  by_cases s2 : q.1.1 = 42
  · have hf : (q.2 == 8 || q.2 == 9) = false := by
      cases hh : (q.2 == 8 || q.2 == 9) with
      | false => rfl
      | true => exact absurd s2 (by rcases p2 hh with e | e <;> rw [e] <;> decide)
    rw [hf, s2]
    cases c0 <;> cases c1 <;> cases c2 <;> cases c90 <;> rfl
  by_cases s3 : q.1.1 = 43
  · rw [← p1 (Or.inl s3), s3]
    cases c0 <;> cases c1 <;> cases c2 <;> cases c45 <;> cases flk q.2 <;> rfl
  by_cases s4 : q.1.1 = 45
  · rw [← p1 (Or.inr s4), s4]
    cases c0 <;> cases c1 <;> cases c2 <;> cases c43 <;> cases flk q.2 <;> rfl
  · have hf : (q.2 == 8 || q.2 == 9) = false := by
      cases hh : (q.2 == 8 || q.2 == 9) with
      | false => rfl
      | true => rcases p2 hh with e | e
                · exact absurd e s3
                · exact absurd e s4
    rw [hf, beq_eq_false_iff_ne.mpr s1, beq_eq_false_iff_ne.mpr s2, if_neg s2, if_neg s3, if_neg s3, if_neg s4, if_neg s1]
    cases c0 <;> cases c1 <;> cases c2 <;> rfl
end ISW
/-! the reference's digits and widths by runs -/
theorem vs_width : ∀ k ∈ vsL, m_X5_width (tau (nI k)) = nI (wdN (nI k)) := by decide +kernel
section DIG
variable {rd kk : Nat → Int32}
theorem isD_run {k : Nat} {s : Int32} (hs : VS s) (hrd : rd k = tau s) : ∀ (T : List KRun) f j b, (∀ t a, T[t]? = some a → rd (j + t) = tau a.1.1) → (∀ a ∈ T, KOK a) → k = j + T.length → T.length < f →
    m_X5_isDigit_L58 rd k f j b = !(b && !hasS s T) := by
  intro T
  induction T with
  | nil =>
    intro f j b _ _ hk hf
    obtain ⟨f, rfl⟩ : ∃ q, f = q + 1 := ⟨f - 1, by omega⟩
    rw [m_X5_isDigit_L58, if_pos (by rw [hk]; simp)]
    cases b <;> rfl
  | cons a T ih =>
    intro f j b hT hKT hk hf
    obtain ⟨f, rfl⟩ : ∃ q, f = q + 1 := ⟨f - 1, by omega⟩
    rw [List.length_cons] at hk hf
    have a1 := hT 0 a rfl
    rw [Nat.add_zero] at a1
    rw [m_X5_isDigit_L58, if_neg (by omega), ih f (j + 1) _ (fun t r' hr => by rw [show j + 1 + t = j + (t + 1) by omega]; exact hT (t + 1) r' hr) (fun x hx => hKT x (List.mem_cons_of_mem _ hx)) (by omega) (by omega)]
    unfold m_X5_isDigit_j89_s0
    rw [a1, hrd]
    have hi := vs_inj (hKT a (List.mem_cons_self ..)).1 hs
    show _ = !(b && !(a.1.1 == s || hasS s T))
    by_cases c : a.1.1 = s
    · rw [if_pos (hi.mpr c), beq_iff_eq.mpr c]; cases b <;> rfl
    · rw [if_neg (fun h => c (hi.mp h)), beq_eq_false_iff_ne.mpr c]; cases b <;> rfl
theorem kN {k n : Nat} (hk : k < 19) (hn : n < 2 ^ 31) : (nI k = nI n ↔ k = n) ∧ (nI k ≤ nI n ↔ k ≤ n) ∧ (nI k < nI n ↔ k < n) := ⟨nI_eq (by omega) hn, nI_leI (by omega) hn, nI_ltI (by omega) hn⟩
theorem dfast_tab : ∀ k, k < 19 → ((if nI k = 12 then true else (if nI k ≤ 5 then (if nI k = 16 then true else (if nI k = 17 then true else false)) else (if nI k < 12 then true else (if nI k = 16 then true else (if nI k = 17 then true else false))))) = (isDk k || flk k)) ∧ (∀ x : Bool, (if nI k = 12 then true else (if nI k = 6 then true else (if nI k = 7 then true else (if nI k = 16 then true else (if nI k = 17 then true else (if nI k < 8 then false else (if nI k ≤ 11 then x else false))))))) = (isDk k || (flk k && x))) := by decide +kernel
/-- the sign t of the run q behind the runs A: is it a digit -/
theorem dfast_eq {q : KRun} (hq : KOK q) {A : List KRun} (hA : ∀ a ∈ A, KOK a) (t : Nat) (hrd : rd ((exq A).length + t) = tau q.1.1) (hkk : kk ((exq A).length + t) = nI q.2) (hT : ∀ u a, (exq A ++ List.replicate t q)[u]? = some a → rd u = tau a.1.1 ∧ kk u = nI a.2) :
    m_X5_isDigitFast rd kk ((exq A).length + t) = (isDk q.2 || (flk q.2 && (decide (0 < t) || hasS q.1.1 A))) := by
  have hl : (exq A ++ List.replicate t q).length = (exq A).length + t := by rw [List.length_append, List.length_replicate]
  have hKT : ∀ a ∈ exq A ++ List.replicate t q, KOK a := fun a ha => by
    rcases List.mem_append.mp ha with e | e
    · exact hA a (exq_mem e)
    · rw [(List.mem_replicate.mp e).2]; exact hq
  have hS : hasS q.1.1 (exq A ++ List.replicate t q) = (hasS q.1.1 A || decide (0 < t)) := by
    unfold hasS
    rw [List.any_append, exq_any hA, List.any_replicate]
    by_cases c : t = 0
    · rw [if_pos c, decide_eq_false (by omega)]
    · rw [if_neg c, decide_eq_true (by omega), beq_iff_eq.mpr rfl]
  have hD : m_X5_isDigit rd kk ((exq A).length + t) = (isDk q.2 || (flk q.2 && (decide (0 < t) || hasS q.1.1 A))) := by
    unfold m_X5_isDigit
    have := isD_run (rd := rd) (k := (exq A).length + t) hq.1 hrd (exq A ++ List.replicate t q) ((exq A).length + t + 1) 0 true (fun t a h => by rw [Nat.zero_add]; exact (hT t a h).1) hKT (by omega) (by omega)
    rw [this, hkk, hS, (dfast_tab q.2 (kok_lt hq)).2, Bool.true_and, Bool.not_not, Bool.or_comm (hasS q.1.1 A)]
  unfold m_X5_isDigitFast
  by_cases ag : m_X5_isDigitFast_j26_s0 rd ((exq A).length + t) = false
  · rw [if_pos ag, hD]
  · rw [if_neg ag, hkk, (dfast_tab q.2 (kok_lt hq)).1]
    have : (decide (0 < t) || hasS q.1.1 A) = true := by
      rw [Bool.or_comm, ← hS]
      unfold m_X5_isDigitFast_j26_s0 at ag
      by_cases z : (exq A).length + t ≤ 0
      · rw [if_pos z] at ag; exact absurd rfl ag
      · rw [if_neg z] at ag
        by_cases y : rd ((exq A).length + t) = rd ((exq A).length + t - 1)
        · have hu : (exq A).length + t - 1 < (exq A ++ List.replicate t q).length := by omega
          have hg : (exq A ++ List.replicate t q)[(exq A).length + t - 1]? = some ((exq A ++ List.replicate t q)[(exq A).length + t - 1]) := List.getElem?_eq_getElem hu
          have hm := List.getElem_mem hu
          generalize (exq A ++ List.replicate t q)[(exq A).length + t - 1] = a at hg hm
          have e := (hT _ a hg).1
          rw [hrd, e] at y
          have y' := (vs_inj hq.1 (hKT a hm).1).mp y
          exact List.any_eq_true.mpr ⟨a, hm, beq_iff_eq.mpr y'.symm⟩
        · rw [if_neg y] at ag; exact absurd rfl ag
    rw [this, Bool.and_true]
end DIG
theorem dgs_step {A : List KRun} {q : KRun} (t : Nat) : dgs A q (t + 1) = dgs A q t + (if (isDk q.2 || (flk q.2 && (decide (0 < t) || hasS q.1.1 A))) = true then 1 else 0) := by
  unfold dgs
  cases isDk q.2 with
  | true => rw [if_pos (show true = true from rfl), if_pos (show true = true from rfl)]; rfl
  | false =>
    cases flk q.2 with
    | false => rfl
    | true =>
      cases hasS q.1.1 A with
      | true => rw [Bool.or_true]; rfl
      | false =>
        rw [Bool.or_false]
        by_cases c : 0 < t
        · rw [decide_eq_true c]
          show t + 1 - 1 = (t - 1) + 1
          omega
        · rw [decide_eq_false c]
          show t + 1 - 1 = (t - 1) + 0
          omega
