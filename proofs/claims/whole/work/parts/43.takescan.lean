/-! the mathematics, 4: take and scan go alike -/
def PI (R : List Run) (x : Nat) : Prop := (∀ r ∈ R, r.2.2 < x) ∧ R.Pairwise (fun a b => a.2.2 < b.2.2)
theorem PI_push {R : List Run} {x y : Nat} (h : PI R x) (s : Int32) (n : Nat) (hy : x < y) : PI (R ++ [(s, n, x)]) y := by
  refine ⟨fun r hr => ?_, List.pairwise_append.mpr ⟨h.2, List.pairwise_singleton _ _, fun a ha b hb => ?_⟩⟩
  · rcases List.mem_append.mp hr with q | q
    · exact Nat.lt_trans (h.1 r q) hy
    · rw [List.mem_singleton] at q; subst q; exact hy
  · rw [List.mem_singleton] at hb; subst hb; exact h.1 a ha
def TSrel (T : Int32 × (Nat → Int32) × (Nat → Int32) × (Nat → Int32) × Nat) (S : Int32 × (Nat → Int32) × (Nat → Int32) × Nat × Int32 × Int32 × Int32) : Prop := T.1 = S.1 ∧ (T.1 = -1 → ∃ R : List Run, OKR R ∧ R.Pairwise (fun a b => a.2.2 < b.2.2) ∧ T.2.2.2.2 = R.length ∧ CR R T.2.1 T.2.2.1 T.2.2.2.1 ∧ RR R S.2.1 S.2.2.1 S.2.2.2.1 S.2.2.2.2.1 S.2.2.2.2.2.1 S.2.2.2.2.2.2)
theorem bI_if {c : Prop} {h : Decidable c} : bI (if c then true else false) = nI (if c then 1 else 0) := by
  by_cases q : c
  · rw [if_pos q, if_pos q]; rfl
  · rw [if_neg q, if_neg q]; rfl
theorem take_scan {cs tx : Nat → Int32} {len : Nat} {mo : Int32} (hT : TX cs tx len) (hlen : len ≤ 80) (hm1 : ¬ mo < 33) (hm2 : ¬ 126 < mo) : ∀ kt ks x (R : List Run) ss ts ps rd pl my pu mi ms, OKR R → R.length ≤ x → PI R x → CR R ss ts ps → RR R rd pl my pu mi ms → 81 ≤ R.length + kt → 101 ≤ x + ks → x ≤ 100 →
    TSrel (m_X2_take_L10 cs len mo kt R.length x ss ts ps) (m_X5_scan_L22 tx len mo ks x rd pl my pu mi ms) := by
  intro kt
  induction kt with
  | zero => intro ks x R ss ts ps rd pl my pu mi ms hO _ _ _ _ hf; exfalso; have := hO.1; omega
  | succ kt ih =>
    intro ks x R ss ts ps rd pl my pu mi ms hO hRx hPI hC hR hf1 hf2 hx
    obtain ⟨ks, rfl⟩ : ∃ k, ks = k + 1 := ⟨ks - 1, by omega⟩
    have hmy : my ≤ 10200 := by rw [hR.1]; omega
    rw [m_X2_take_L10, m_X5_scan_L22]
    by_cases hend : len ≤ x
    · rw [if_pos hend, if_pos hend]
      have key : TSrel ((-1 : Int32), ss, ts, ps, R.length) ((-1 : Int32), rd, pl, my, pu, mi, ms) := ⟨rfl, fun _ => ⟨R, hO, hPI.2, rfl, hC, hR⟩⟩
      by_cases h80 : 80 ≤ R.length
      · rw [if_pos h80]; exact key
      · rw [if_neg h80]; exact key
    · rw [if_neg (show ¬ 80 ≤ R.length by omega), if_neg hend, if_neg hend]
      have hsg := sign_same (pl := x) hT hlen (by omega) hm1 hm2
      by_cases hs1 : m_X3_signAt cs len x mo = -1
      · rw [if_pos hs1] at hsg
        rw [if_pos hs1, if_pos hsg]
        exact ⟨rfl, fun q => absurd q (nI_nm1 (by omega))⟩
      · rw [if_neg hs1] at hsg
        have hvs : VS (m_X3_signAt cs len x mo) := by
          have e := sgC_eq cs len x mo
          rw [ca_nrm hT hlen (by omega), ca_nrm hT hlen (by omega)] at e
          rw [e] at hs1 ⊢
          exact sgC_vs hm1 hs1
        obtain ⟨t1, t2, t3, t4, -⟩ := vs_tau hvs
        have hw : m_X5_scan_j65_s0 tx len mo x = m_X4_widthOf (m_X3_signAt cs len x mo) := by
          unfold m_X5_scan_j65_s0
          rw [hsg]
          exact vs_wid hvs
        have hw2 := m_X4_widthOf_le (m_X3_signAt cs len x mo)
        have hw1 := m_X4_widthOf_pos (m_X3_signAt cs len x mo)
        rw [if_neg hs1, if_neg (show ¬ m_X5_signAt tx len mo x = -1 by rw [hsg]; exact t1), hw]
        have hch : m_X3_characterAt cs len (nI (x + m_X4_widthOf (m_X3_signAt cs len x mo))) = nrm (m_X5_at0 tx len (x + m_X4_widthOf (m_X3_signAt cs len x mo))) := ca_nrm hT hlen (by omega)
        have h40 : m_X3_characterAt cs len (nI (x + m_X4_widthOf (m_X3_signAt cs len x mo))) = 40 ↔ m_X5_at0 tx len (x + m_X4_widthOf (m_X3_signAt cs len x mo)) = 40 := by
          rw [hch]; exact nrm_is (q := 40) (by omega) (by omega)
        have f43 : ∀ n : Nat, (if tau (m_X3_signAt cs len x mo) = 43 then n else 0) = (if m_X3_signAt cs len x mo = 43 then n else 0) := fun n => by simp only [t2]
        have f45 : ∀ n : Nat, (if tau (m_X3_signAt cs len x mo) = 45 then n else 0) = (if m_X3_signAt cs len x mo = 45 then n else 0) := fun n => by simp only [t3]
        have f36 : ∀ n : Nat, (if tau (m_X3_signAt cs len x mo) = 202 then n else 0) = (if m_X3_signAt cs len x mo = 36 then n else 0) := fun n => by simp only [t4]
        by_cases hp : m_X5_at0 tx len (x + m_X4_widthOf (m_X3_signAt cs len x mo)) = 40
        · rw [if_pos (h40.mpr hp), if_pos hp]
          rcases cnt_same (op := x + m_X4_widthOf (m_X3_signAt cs len x mo)) hT hlen (by omega) with ⟨g1, g2, v, e, v1, v2, gN, gV, gC, gB, e1, e2⟩ | ⟨g1, g2⟩
          · rw [if_pos g1, if_neg g2]
            have hv : m_X5_counted tx len (x + m_X5_scan_j65_s0 tx len mo x) = nI v := by rw [hw]; exact gV
            obtain ⟨rd2, pl2, q1, q2, q3⟩ := in2 (tx := tx) (len := len) (mo := mo) (m_X5_scan_L22 tx len mo ks) x pu mi ms hv v2 v 0 (10200 + 1) rd pl my (by omega) (by omega) hmy
            rw [q1, hw, gB, gN, gC, nI_clamp (by omega), nI_clamp (by omega)]
            have hlen2 : (R ++ [(m_X3_signAt cs len x mo, v, x)]).length = R.length + 1 := by simp
            rw [← hlen2]
            refine ih ks (e + 1) (R ++ [(m_X3_signAt cs len x mo, v, x)]) _ _ _ _ _ _ _ _ _ (OKR_push hO (by omega) v1 v2 hvs (by omega)) (by rw [hlen2]; omega) (PI_push hPI _ _ (by omega)) (CR_push hC _ _ _) (RR_push hR q2 (fun q a b => by rw [hsg] at q3; exact q3 q a b) ?_ ?_ ?_) (by rw [hlen2]; omega) (by omega) (by omega)
            · show pu + m_X5_scan_j121_s0_2 tx len mo x = _
              unfold m_X5_scan_j121_s0_2
              rw [hsg, hv, ← f43]
              by_cases z : tau (m_X3_signAt cs len x mo) = 43
              · rw [if_pos z, if_pos z]
              · rw [if_neg z, if_neg z]; rfl
            · show mi + m_X5_scan_j142_s0_2 tx len mo x = _
              unfold m_X5_scan_j142_s0_2
              rw [hsg, hv, ← f45]
              by_cases z : tau (m_X3_signAt cs len x mo) = 45
              · rw [if_pos z, if_pos z]
              · rw [if_neg z, if_neg z]; rfl
            · show ms + m_X5_scan_j164_s0_2 tx len mo x = _
              unfold m_X5_scan_j164_s0_2
              rw [hsg, hv, ← f36]
              by_cases z : tau (m_X3_signAt cs len x mo) = 202
              · rw [if_pos z, if_pos z]
              · rw [if_neg z, if_neg z]; rfl
          · rw [if_neg g1, if_pos g2]
            exact ⟨rfl, fun q => absurd q (nI_nm1 (by omega))⟩
        · rw [if_neg (fun q => hp (h40.mp q)), if_neg hp]
          obtain ⟨rd2, pl2, q1, q2, q3⟩ := in1 (tx := tx) (len := len) (mo := mo) (m_X5_scan_L22 tx len mo ks) x pu mi ms 10199 rd pl my hmy
          rw [show 10200 + 1 = 10199 + 2 from rfl, q1, hw]
          have hlen2 : (R ++ [(m_X3_signAt cs len x mo, 1, x)]).length = R.length + 1 := by simp
          rw [← hlen2]
          refine ih ks (x + m_X4_widthOf (m_X3_signAt cs len x mo)) (R ++ [(m_X3_signAt cs len x mo, 1, x)]) _ _ _ _ _ _ _ _ _ (OKR_push hO (by omega) (by omega) (by omega) hvs (by omega)) (by rw [hlen2]; omega) (PI_push hPI _ _ (by omega)) (CR_push hC _ _ _) (RR_push hR q2 (fun q a b => by rw [hsg] at q3; exact q3 q a b) ?_ ?_ ?_) (by rw [hlen2]; omega) (by omega) (by omega)
          · show pu + bI (m_X5_scan_j121_s0 tx len mo x) = _
            unfold m_X5_scan_j121_s0
            rw [hsg, bI_if, ← f43]
          · show mi + bI (m_X5_scan_j142_s0 tx len mo x) = _
            unfold m_X5_scan_j142_s0
            rw [hsg, bI_if, ← f45]
          · show ms + bI (m_X5_scan_j164_s0 tx len mo x) = _
            unfold m_X5_scan_j164_s0
            rw [hsg, bI_if, ← f36]
