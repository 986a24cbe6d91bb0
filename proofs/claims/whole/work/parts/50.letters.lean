/-! the mathematics, 11: the signs counted, the letters, what the reference keeps -/
def widN : List KRun → Nat
  | [] => 0
  | q :: Q => wdN q.1.1 * q.1.2.1 + widN Q
theorem counted_run {ss ts : Nat → Int32} {sz : Nat} : ∀ (T : List KRun) f i x, (∀ t a, T[t]? = some a → ss (i + t) = a.1.1 ∧ ts (i + t) = nI a.1.2.1) → sz = i + T.length → T.length < f → m_X2_allSignsCounted_L4 ss ts sz f i (nI x) = nI (x + widN T) := by
  intro T
  induction T with
  | nil =>
    intro f i x _ hm hf
    obtain ⟨f, rfl⟩ : ∃ q, f = q + 1 := ⟨f - 1, by omega⟩
    rw [m_X2_allSignsCounted_L4, if_pos (by rw [hm]; simp)]; rfl
  | cons a T ih =>
    intro f i x hT hm hf
    obtain ⟨f, rfl⟩ : ∃ q, f = q + 1 := ⟨f - 1, by omega⟩
    rw [List.length_cons] at hm hf
    obtain ⟨a1, a2⟩ := hT 0 a rfl
    rw [Nat.add_zero] at a1 a2
    rw [m_X2_allSignsCounted_L4, if_neg (by omega), a1, a2, wd_sc, nI_add, ih f (i + 1) _ (fun t r' hr => by rw [show i + 1 + t = i + (t + 1) by omega]; exact hT (t + 1) r' hr) (by omega) (by omega), Nat.add_assoc]
    rfl
theorem counted_eq {Q : List KRun} {ss ts : Nat → Int32} (h : ∀ t a, Q[t]? = some a → ss t = a.1.1 ∧ ts t = nI a.1.2.1) : m_X2_allSignsCounted ss ts Q.length = nI (widN Q) := by
  have := counted_run (ss := ss) (ts := ts) (sz := Q.length) Q (Q.length + 1) 0 0 (fun t a ha => by rw [Nat.zero_add]; exact h t a ha) (by omega) (by omega)
  rw [Nat.zero_add] at this
  exact this
/-- the letters of a sign -/
def lts (cu : Int32) (q : KRun) : List Int32 := if q.1.1 = 67 then [67, 82] else (if q.1.1 = 68 then [68, 66] else (if q.1.1 = 36 then [cu] else [q.1.1]))
def lets (cu : Int32) (E : List KRun) : List Int32 := E.flatMap (lts cu)
theorem lts_len (cu : Int32) (q : KRun) : (lts cu q).length = m_X4_widthOf q.1.1 := by
  unfold lts m_X4_widthOf
  split
  · rfl
  · split
    · rfl
    · split <;> rfl
def letX (cu s : Int32) (x : Nat) : Int32 := if s = 36 then cu else (if s = 67 then (if x % 2 = 0 then 67 else 82) else (if s = 68 then (if x % 2 = 0 then 68 else 66) else s))
theorem letX_eq {cu s : Int32} {x : Nat} (hx : x < 2 ^ 31) : m_X1_letterOf cu s (nI x) = letX cu s x := by
  unfold m_X1_letterOf letX
  have e : (nI x - nI x / 2 * 2 = 0) ↔ x % 2 = 0 := by
    have := pk_rem (a := x) (d := 2) hx (by omega) (by omega)
    rw [show nI x - nI x / 2 * 2 = nI (x % 2) from this]
    exact nI_eq (b := 0) (by omega) (by omega)
  simp only [e]
theorem lts_at {cu : Int32} {q : KRun} : ∀ n x, x < n * m_X4_widthOf q.1.1 → ((List.replicate n q).flatMap (lts cu))[x]? = some (letX cu q.1.1 x) := by
  intro n
  induction n with
  | zero => intro x h; rw [Nat.zero_mul] at h; omega
  | succ n ih =>
    intro x h
    rw [Nat.succ_mul] at h
    rw [List.replicate_succ, List.flatMap_cons]
    by_cases c : x < m_X4_widthOf q.1.1
    · rw [List.getElem?_append_left (by rw [lts_len]; exact c)]
      unfold lts letX
      unfold m_X4_widthOf at c
      by_cases s1 : q.1.1 = 67
      · rw [if_pos s1] at c
        rw [if_pos s1, if_neg (by rw [s1]; decide), if_pos s1]
        rcases (show x = 0 ∨ x = 1 by omega) with rfl | rfl <;> rfl
      · rw [if_neg s1] at c ⊢
        by_cases s2 : q.1.1 = 68
        · rw [if_pos s2] at c
          rw [if_pos s2, if_neg (by rw [s2]; decide), if_neg s1, if_pos s2]
          rcases (show x = 0 ∨ x = 1 by omega) with rfl | rfl <;> rfl
        · rw [if_neg s2] at c ⊢
          rw [show x = 0 by omega, if_neg s1, if_neg s2]
          by_cases s3 : q.1.1 = 36
          · rw [if_pos s3, if_pos s3]; rfl
          · rw [if_neg s3, if_neg s3]; rfl
    · rw [List.getElem?_append_right (by rw [lts_len]; omega), lts_len, ih _ (by omega)]
      congr 1
      have hx2 : m_X4_widthOf q.1.1 = 2 → letX cu q.1.1 (x - m_X4_widthOf q.1.1) = letX cu q.1.1 x := fun e => by
        rw [e] at c ⊢
        unfold letX
        rw [show (x - 2) % 2 = x % 2 by omega]
      by_cases s1 : q.1.1 = 67
      · exact hx2 (by unfold m_X4_widthOf; rw [if_pos s1])
      · by_cases s2 : q.1.1 = 68
        · exact hx2 (by unfold m_X4_widthOf; rw [if_neg s1, if_pos s2])
        · unfold letX
          rw [if_neg s1, if_neg s2, if_neg s1, if_neg s2]
theorem lts_rep (cu : Int32) (q : KRun) : ∀ n, ((List.replicate n q).flatMap (lts cu)).length = n * m_X4_widthOf q.1.1 := by
  intro n
  induction n with
  | zero => rw [Nat.zero_mul]; rfl
  | succ n ih => rw [List.replicate_succ, List.flatMap_cons, List.length_append, lts_len, ih, Nat.succ_mul, Nat.add_comm]
theorem at_run {ss ts : Nat → Int32} {n : Nat} {cu : Int32} : ∀ (T : List KRun) f i x, (∀ t a, T[t]? = some a → ss (i + t) = a.1.1 ∧ ts (i + t) = nI a.1.2.1) → (∀ a ∈ T, KOK a) → n = i + T.length → T.length < f → x < 2 ^ 31 → m_X1_characterAt_L10 ss ts n cu f i (nI x) = ((lets cu (exq T))[x]?).getD (-1) := by
  intro T
  induction T with
  | nil =>
    intro f i x _ _ hm hf hx
    obtain ⟨f, rfl⟩ : ∃ q, f = q + 1 := ⟨f - 1, by omega⟩
    rw [m_X1_characterAt_L10, if_pos (by rw [hm]; simp)]; rfl
  | cons a T ih =>
    intro f i x hT hK hm hf hx
    obtain ⟨f, rfl⟩ : ∃ q, f = q + 1 := ⟨f - 1, by omega⟩
    rw [List.length_cons] at hm hf
    obtain ⟨a1, a2⟩ := hT 0 a rfl
    rw [Nat.add_zero] at a1 a2
    obtain ⟨-, n1, n2, -⟩ := hK a (List.mem_cons_self ..)
    have hw := m_X4_widthOf_le a.1.1
    have hsp : a.1.2.1 * m_X4_widthOf a.1.1 ≤ 9999 * 2 := Nat.mul_le_mul n2 hw
    have hl : lets cu (exq (a :: T)) = (List.replicate a.1.2.1 a).flatMap (lts cu) ++ lets cu (exq T) := by
      show (List.replicate a.1.2.1 a ++ exq T).flatMap (lts cu) = _
      rw [List.flatMap_append]; rfl
    rw [m_X1_characterAt_L10, if_neg (by omega), a1, a2, pk_mul, hl]
    by_cases c : a.1.2.1 * m_X4_widthOf a.1.1 ≤ x
    · rw [if_pos (nI_le c hx), pk_sub c, ih f (i + 1) _ (fun t r' hr => by rw [show i + 1 + t = i + (t + 1) by omega]; exact hT (t + 1) r' hr) (fun y hy => hK y (List.mem_cons_of_mem _ hy)) (by omega) (by omega) (by omega), List.getElem?_append_right (by rw [lts_rep]; exact c), lts_rep]
    · rw [if_neg (nI_ge (by omega) (by omega)), letX_eq hx, List.getElem?_append_left (by rw [lts_rep]; omega), lts_at _ _ (by omega)]; rfl
/-- the reference's letters -/
def RLt (cu : Int32) (Q : List KRun) (lt : Nat → Int32) (sh : Nat) : Prop := sh = (lets cu (exq Q)).length ∧ ∀ j v, (lets cu (exq Q))[j]? = some v → lt j = v
theorem at_same {Q : List KRun} {ss ts ks lt : Nat → Int32} {sh : Nat} {cu : Int32} (hK : ∀ q ∈ Q, KOK q) (hC : CP Q ss ts ks) (hL : RLt cu Q lt sh) (hsh : sh < 2 ^ 31) (x : Int32) : m_X4_at ss ts Q.length cu x = m_X5_at lt sh x := by
  unfold m_X4_at m_X1_characterAt m_X5_at
  by_cases c : x < 0
  · rw [if_pos c, if_neg (Int32.not_le.mpr c)]
  · rw [if_neg c, if_pos (Int32.not_lt.mp c)]
    obtain ⟨j, hj, rfl⟩ := nI_of c
    rw [show (m_X1_characterAt_L10 ss ts Q.length cu (Q.length + 1) 0 (nI j)) = ((lets cu (exq Q))[j]?).getD (-1) from at_run Q (Q.length + 1) 0 j (fun t a h => by rw [Nat.zero_add]; exact ⟨(hC t a h).1, (hC t a h).2.1⟩) hK (by omega) (by omega) hj]
    by_cases d : j < sh
    · rw [if_pos (nI_lt d hsh), nI_clamp hj]
      have hd : j < (lets cu (exq Q)).length := by rw [← hL.1]; exact d
      rw [List.getElem?_eq_getElem hd, hL.2 j _ (List.getElem?_eq_getElem hd)]; rfl
    · rw [if_neg (nI_nlt (by omega) hj), List.getElem?_eq_none (by rw [← hL.1]; omega)]; rfl
theorem lw_width : ∀ k ∈ vsL, lw (nI k) = m_X4_widthOf (nI k) ∧ (if tau (nI k) = 200 then 2 else (if tau (nI k) = 201 then 2 else 1)) = lw (nI k) ∧ (tau (nI k) = 200 ↔ nI k = 67) ∧ (tau (nI k) = 201 ↔ nI k = 68) ∧ (tau (nI k) = 202 ↔ nI k = 36) ∧ (¬ nI k = 67 → ¬ nI k = 68 → ¬ nI k = 36 → tau (nI k) = nI k) := by decide +kernel
theorem kok_lw {q : KRun} (h : KOK q) : lw q.1.1 = m_X4_widthOf q.1.1 ∧ (if tau q.1.1 = 200 then 2 else (if tau q.1.1 = 201 then 2 else 1)) = lw q.1.1 ∧ (tau q.1.1 = 200 ↔ q.1.1 = 67) ∧ (tau q.1.1 = 201 ↔ q.1.1 = 68) ∧ (tau q.1.1 = 202 ↔ q.1.1 = 36) ∧ (¬ q.1.1 = 67 → ¬ q.1.1 = 68 → ¬ q.1.1 = 36 → tau q.1.1 = q.1.1) := vs_fin (P := fun s => lw s = m_X4_widthOf s ∧ (if tau s = 200 then 2 else (if tau s = 201 then 2 else 1)) = lw s ∧ (tau s = 200 ↔ s = 67) ∧ (tau s = 201 ↔ s = 68) ∧ (tau s = 202 ↔ s = 36) ∧ (¬ s = 67 → ¬ s = 68 → ¬ s = 36 → tau s = s)) lw_width h.1
theorem lets_len (cu : Int32) : ∀ Q : List KRun, (∀ q ∈ Q, KOK q) → (lets cu (exq Q)).length = letN Q := by
  intro Q
  induction Q with
  | nil => intro _; rfl
  | cons a T ih =>
    intro hK
    have hl : lets cu (exq (a :: T)) = (List.replicate a.1.2.1 a).flatMap (lts cu) ++ lets cu (exq T) := by
      show (List.replicate a.1.2.1 a ++ exq T).flatMap (lts cu) = _
      rw [List.flatMap_append]; rfl
    rw [hl, List.length_append, lts_rep, ih (fun y hy => hK y (List.mem_cons_of_mem _ hy))]
    show _ = lw a.1.1 * a.1.2.1 + letN T
    rw [(kok_lw (hK a (List.mem_cons_self ..))).1, Nat.mul_comm]
theorem shw_eq {rd : Nat → Int32} (cu : Int32) {E : List KRun} (hK : ∀ q ∈ E, KOK q) (hE : ∀ j q, E[j]? = some q → rd j = tau q.1.1) : ∀ i, i ≤ E.length → shw rd i = (lets cu (E.take i)).length := by
  intro i
  induction i with
  | zero => intro _; rw [shw, List.take_zero]; rfl
  | succ i ih =>
    intro hi
    have hg : E[i]? = some E[i] := List.getElem?_eq_getElem (by omega)
    have hm := List.getElem_mem (l := E) (n := i) (by omega)
    rw [shw, ih (by omega), List.take_add_one, hg]
    generalize E[i] = q at hg hm
    show _ = (lets cu (E.take i ++ [q])).length
    unfold lets
    rw [List.flatMap_append, List.length_append, List.flatMap_cons, List.flatMap_nil, List.append_nil, lts_len, hE i q hg, (kok_lw (hK q hm)).2.1, (kok_lw (hK q hm)).1]
/-! the reference's reading: what it writes -/
section RDR
variable {kd lt0 rw rk : Nat → Int32} {zs : Nat → Nat} {mo : Int32} {kp : Nat} {rd pl : Nat → Int32} {my : Nat} {pu mi ms : Int32}
theorem rd61 : ∀ d i sn kn k, my = i + d → d < k → ∃ sn2 kn2, m_X5_read_L61 kd lt0 rw rk zs mo kp rd pl my pu mi ms k i sn kn = m_X5_read_L108 kd rw rk zs mo kp rd pl my pu mi ms sn2 kn2 (my + 1) 0 0 lt0 0 ∧ (∀ j, j < i → sn2 j = sn j ∧ kn2 j = kn j) ∧ (∀ j, i ≤ j → j < my → sn2 j = rd j ∧ kn2 j = m_X5_sorts rd kd my pu mi ms j) := by
  intro d
  induction d with
  | zero =>
    intro i sn kn k hm hk
    obtain ⟨k, rfl⟩ : ∃ q, k = q + 1 := ⟨k - 1, by omega⟩
    rw [m_X5_read_L61, if_pos (by omega)]
    exact ⟨sn, kn, rfl, fun _ _ => ⟨rfl, rfl⟩, fun j h1 h2 => by omega⟩
  | succ d ih =>
    intro i sn kn k hm hk
    obtain ⟨k, rfl⟩ : ∃ q, k = q + 1 := ⟨k - 1, by omega⟩
    rw [m_X5_read_L61, if_neg (by omega)]
    obtain ⟨sn2, kn2, e1, e2, e3⟩ := ih (i + 1) (upd sn i (rd i)) (upd kn i (m_X5_sorts rd kd my pu mi ms i)) k (by omega) (by omega)
    refine ⟨sn2, kn2, e1, fun j hj => ?_, fun j h1 h2 => ?_⟩
    · obtain ⟨g1, g2⟩ := e2 j (by omega)
      rw [g1, g2]; exact ⟨pk_un (by omega), pk_un (by omega)⟩
    · by_cases c : j = i
      · subst c
        obtain ⟨g1, g2⟩ := e2 j (by omega)
        rw [g1, g2]; exact ⟨pk_us, pk_us⟩
      · exact e3 j (by omega) h2
theorem keep15 {kk : Nat → Int32} : ∀ d i k rw rk, my = i + d → d < k → ∃ rw2 rk2, m_X5_keep_L15 rd kk zs my kp k i rw rk = (rw2, rk2, va_up zs kp my, kp + 1) ∧ (∀ j, j < i → rw2 (10200 * kp + j) = rw (10200 * kp + j) ∧ rk2 (10200 * kp + j) = rk (10200 * kp + j)) ∧ (∀ j, j < 10200 * kp → rw2 j = rw j ∧ rk2 j = rk j) ∧ (∀ j, i ≤ j → j < my → rw2 (10200 * kp + j) = rd j ∧ rk2 (10200 * kp + j) = kk j) := by
  intro d
  induction d with
  | zero =>
    intro i k rw rk hm hk
    obtain ⟨k, rfl⟩ : ∃ q, k = q + 1 := ⟨k - 1, by omega⟩
    rw [m_X5_keep_L15, if_pos (by omega)]
    exact ⟨rw, rk, rfl, fun _ _ => ⟨rfl, rfl⟩, fun _ _ => ⟨rfl, rfl⟩, fun j h1 h2 => by omega⟩
  | succ d ih =>
    intro i k rw rk hm hk
    obtain ⟨k, rfl⟩ : ∃ q, k = q + 1 := ⟨k - 1, by omega⟩
    rw [m_X5_keep_L15, if_neg (by omega)]
    obtain ⟨rw2, rk2, e1, e2, e3, e4⟩ := ih (i + 1) k (upd rw (10200 * kp + i) (rd i)) (upd rk (10200 * kp + i) (kk i)) (by omega) (by omega)
    refine ⟨rw2, rk2, e1, fun j hj => ?_, fun j hj => ?_, fun j h1 h2 => ?_⟩
    · obtain ⟨g1, g2⟩ := e2 j (by omega)
      rw [g1, g2]; exact ⟨pk_un (by omega), pk_un (by omega)⟩
    · obtain ⟨g1, g2⟩ := e3 j hj
      rw [g1, g2]; exact ⟨pk_un (by omega), pk_un (by omega)⟩
    · by_cases c : j = i
      · subst c
        obtain ⟨g1, g2⟩ := e2 j (by omega)
        rw [g1, g2]; exact ⟨pk_us, pk_us⟩
      · exact e4 j (by omega) h2
/-- the reference's end of a good reading -/
def FIN (kd rw rk : Nat → Int32) (zs : Nat → Nat) (mo : Int32) (kp : Nat) (rd pl : Nat → Int32) (my : Nat) (pu mi ms : Int32) (sn kn : Nat → Int32) (x : Int32) (lt : Nat → Int32) (sh : Nat) : Int32 × (Nat → Int32) × (Nat → Int32) × (Nat → Int32) × Nat × Int32 × Int32 × Int32 × (Nat → Int32) × (Nat → Int32) × (Nat → Int32) × Int32 × Nat × Int32 × (Nat → Int32) × (Nat → Int32) × (Nat → Nat) × Nat := if 40 ≤ kp then ((x, rd, pl, (m_X5_sorts rd kd my pu mi ms), my, pu, mi, ms, sn, kn, lt, nI my, sh, mo, rw, rk, zs, kp)) else (match m_X5_keep rd (m_X5_sorts rd kd my pu mi ms) rw rk zs my kp with | (rw_z_10, rk_z_10, zs_z_10, kp_z_10) => (x, rd, pl, (m_X5_sorts rd kd my pu mi ms), my, pu, mi, ms, sn, kn, lt, (nI my), sh, mo, rw_z_10, rk_z_10, zs_z_10, kp_z_10))
theorem rd108 {sn kn : Nat → Int32} : ∀ (T : List KRun) k i x lt sh, (∀ t a, T[t]? = some a → rd (i + t) = tau a.1.1) → (∀ a ∈ T, KOK a) → my = i + T.length → T.length < k → ∃ lt2, m_X5_read_L108 kd rw rk zs mo kp rd pl my pu mi ms sn kn k i (nI x) lt sh = FIN kd rw rk zs mo kp rd pl my pu mi ms sn kn (nI (x + (T.map (fun q => wdN q.1.1)).sum)) lt2 (sh + (lets mo T).length) ∧ (∀ j, j < sh → lt2 j = lt j) ∧ (∀ j v, (lets mo T)[j]? = some v → lt2 (sh + j) = v) := by
  intro T
  induction T with
  | nil =>
    intro k i x lt sh _ _ hm hk
    obtain ⟨k, rfl⟩ : ∃ q, k = q + 1 := ⟨k - 1, by omega⟩
    rw [m_X5_read_L108, if_pos (by rw [hm]; simp)]
    exact ⟨lt, rfl, fun _ _ => rfl, fun j v h => by cases h⟩
  | cons a T ih =>
    intro k i x lt sh hT hK hm hk
    obtain ⟨k, rfl⟩ : ∃ q, k = q + 1 := ⟨k - 1, by omega⟩
    rw [List.length_cons] at hm hk
    have a1 := hT 0 a rfl
    rw [Nat.add_zero] at a1
    have hka := hK a (List.mem_cons_self ..)
    obtain ⟨-, -, t1, t2, t3, t4⟩ := kok_lw hka
    have hwd : m_X5_width (tau a.1.1) = nI (wdN a.1.1) := vs_fin (P := fun s => m_X5_width (tau s) = nI (wdN s)) vs_width hka.1
    have hl : lets mo (a :: T) = lts mo a ++ lets mo T := by unfold lets; rw [List.flatMap_cons]
    have hsum : ((a :: T).map (fun q : KRun => wdN q.1.1)).sum = wdN a.1.1 + (T.map (fun q : KRun => wdN q.1.1)).sum := by rw [List.map_cons, List.sum_cons]
    have ihT := fun x lt sh => ih k (i + 1) x lt sh (fun t r' hr => by rw [show i + 1 + t = i + (t + 1) by omega]; exact hT (t + 1) r' hr) (fun y hy => hK y (List.mem_cons_of_mem _ hy)) (by omega) (by omega)
    rw [m_X5_read_L108, if_neg (by omega)]
    unfold m_X5_read_j195_s0
    rw [a1, hwd, nI_add, hl, hsum, List.length_append]
    by_cases s1 : a.1.1 = 67
    · rw [if_pos (t1.mpr s1), if_pos (t1.mpr s1)]
      obtain ⟨lt2, e1, e2, e3⟩ := ihT (x + wdN a.1.1) (upd (upd lt sh 67) (sh + 1) 82) (sh + 1 + 1)
      have el : lts mo a = [67, 82] := by unfold lts; rw [if_pos s1]
      rw [el]
      refine ⟨lt2, ?_, fun j hj => ?_, fun j v hv => ?_⟩
      · rw [e1, Nat.add_assoc x]
        show FIN _ _ _ _ _ _ _ _ _ _ _ _ _ _ _ _ (sh + 1 + 1 + _) = FIN _ _ _ _ _ _ _ _ _ _ _ _ _ _ _ _ (sh + (2 + _))
        rw [show sh + 1 + 1 + (lets mo T).length = sh + (2 + (lets mo T).length) by omega]
      · rw [e2 j (by omega), pk_un (by omega), pk_un (by omega)]
      · match j, hv with
        | 0, hv => cases hv; rw [Nat.add_zero, e2 sh (by omega), pk_un (by omega), pk_us]
        | 1, hv => cases hv; rw [e2 (sh + 1) (by omega), pk_us]
        | j + 2, hv => rw [show sh + (j + 2) = sh + 1 + 1 + j by omega]; exact e3 j v hv
    · rw [if_neg (fun h => s1 (t1.mp h)), if_neg (fun h => s1 (t1.mp h))]
      by_cases s2 : a.1.1 = 68
      · rw [if_pos (t2.mpr s2), if_pos (t2.mpr s2)]
        obtain ⟨lt2, e1, e2, e3⟩ := ihT (x + wdN a.1.1) (upd (upd lt sh 68) (sh + 1) 66) (sh + 1 + 1)
        have el : lts mo a = [68, 66] := by unfold lts; rw [if_neg s1, if_pos s2]
        rw [el]
        refine ⟨lt2, ?_, fun j hj => ?_, fun j v hv => ?_⟩
        · rw [e1, Nat.add_assoc x]
          show FIN _ _ _ _ _ _ _ _ _ _ _ _ _ _ _ _ (sh + 1 + 1 + _) = FIN _ _ _ _ _ _ _ _ _ _ _ _ _ _ _ _ (sh + (2 + _))
          rw [show sh + 1 + 1 + (lets mo T).length = sh + (2 + (lets mo T).length) by omega]
        · rw [e2 j (by omega), pk_un (by omega), pk_un (by omega)]
        · match j, hv with
          | 0, hv => cases hv; rw [Nat.add_zero, e2 sh (by omega), pk_un (by omega), pk_us]
          | 1, hv => cases hv; rw [e2 (sh + 1) (by omega), pk_us]
          | j + 2, hv => rw [show sh + (j + 2) = sh + 1 + 1 + j by omega]; exact e3 j v hv
      · rw [if_neg (fun h => s2 (t2.mp h)), if_neg (fun h => s2 (t2.mp h))]
        have el : lts mo a = [if tau a.1.1 = 202 then mo else tau a.1.1] := by
          unfold lts
          rw [if_neg s1, if_neg s2]
          by_cases s3 : a.1.1 = 36
          · rw [if_pos s3, if_pos (t3.mpr s3)]
          · rw [if_neg s3, if_neg (fun h => s3 (t3.mp h)), t4 s1 s2 s3]
        rw [el]
        generalize (if tau a.1.1 = 202 then mo else tau a.1.1) = c
        obtain ⟨lt2, e1, e2, e3⟩ := ihT (x + wdN a.1.1) (upd lt sh c) (sh + 1)
        refine ⟨lt2, ?_, fun j hj => ?_, fun j v hv => ?_⟩
        · rw [e1, Nat.add_assoc x]
          show FIN _ _ _ _ _ _ _ _ _ _ _ _ _ _ _ _ (sh + 1 + _) = FIN _ _ _ _ _ _ _ _ _ _ _ _ _ _ _ _ (sh + (1 + _))
          rw [show sh + 1 + (lets mo T).length = sh + (1 + (lets mo T).length) by omega]
        · rw [e2 j (by omega), pk_un (by omega)]
        · match j, hv with
          | 0, hv => cases hv; rw [Nat.add_zero, e2 sh (by omega), pk_us]
          | j + 1, hv => rw [show sh + (j + 1) = sh + 1 + j by omega]; exact e3 j v hv
end RDR
theorem wid_sum : ∀ Q : List KRun, ((exq Q).map (fun q : KRun => wdN q.1.1)).sum = widN Q := by
  intro Q
  induction Q with
  | nil => rfl
  | cons q Q ih =>
    show ((List.replicate q.1.2.1 q ++ exq Q).map (fun q : KRun => wdN q.1.1)).sum = wdN q.1.1 * q.1.2.1 + widN Q
    rw [List.map_append, List.sum_append, ih, List.map_replicate, List.sum_replicate_nat, Nat.mul_comm]
