/-! the mathematics, 14: a reading, as a whole; sign, currency, follows -/
/-- what a good reading leaves: the class's rows and the reference's, of one good picture -/
def RdG (mo : Int32) (F : Int32 × (Nat → Int32) × (Nat → Int32) × (Nat → Int32) × (Nat → Int32) × (Nat → Int32) × Nat) (G : Int32 × (Nat → Int32) × (Nat → Int32) × (Nat → Int32) × Nat × Int32 × Int32 × Int32 × (Nat → Int32) × (Nat → Int32) × (Nat → Int32) × Int32 × Nat × Int32 × (Nat → Int32) × (Nat → Int32) × (Nat → Nat) × Nat) (rw rk : Nat → Int32) (zs : Nat → Nat) (kp : Nat) (Q : List KRun) (n : Nat) : Prop := (GQ Q) ∧ (F.2.2.2.2.2.2 = Q.length) ∧ (CQ Q F.2.1 F.2.2.1 F.2.2.2.1 F.2.2.2.2.1 F.2.2.2.2.2.1) ∧ (m_X2_allSignsCounted F.2.1 F.2.2.1 F.2.2.2.2.2.2 = G.1) ∧ (RS Q G.2.2.2.2.2.2.2.2.1 G.2.2.2.2.2.2.2.2.2.1 0 n) ∧ (G.2.2.2.2.2.2.2.2.2.2.2.1 = nI n) ∧ (n ≤ 10200) ∧ (RLt mo Q G.2.2.2.2.2.2.2.2.2.2.1 G.2.2.2.2.2.2.2.2.2.2.2.2.1) ∧ (G.2.2.2.2.2.2.2.2.2.2.2.2.1 ≤ 10200) ∧ (40 ≤ kp → G.2.2.2.2.2.2.2.2.2.2.2.2.2.2 = (rw, rk, zs, kp)) ∧ (kp < 40 → G.2.2.2.2.2.2.2.2.2.2.2.2.2.2.2.2 = (va_up zs kp n, kp + 1) ∧ RS Q G.2.2.2.2.2.2.2.2.2.2.2.2.2.2.1 G.2.2.2.2.2.2.2.2.2.2.2.2.2.2.2.1 (10200 * kp) n ∧ ∀ j, j < 10200 * kp → G.2.2.2.2.2.2.2.2.2.2.2.2.2.2.1 j = rw j ∧ G.2.2.2.2.2.2.2.2.2.2.2.2.2.2.2.1 j = rk j)
theorem RdG.good {mo : Int32} {F : Int32 × (Nat → Int32) × (Nat → Int32) × (Nat → Int32) × (Nat → Int32) × (Nat → Int32) × Nat} {G : Int32 × (Nat → Int32) × (Nat → Int32) × (Nat → Int32) × Nat × Int32 × Int32 × Int32 × (Nat → Int32) × (Nat → Int32) × (Nat → Int32) × Int32 × Nat × Int32 × (Nat → Int32) × (Nat → Int32) × (Nat → Nat) × Nat} {rw rk : Nat → Int32} {zs : Nat → Nat} {kp : Nat} {Q : List KRun} {n : Nat} (h : RdG mo F G rw rk zs kp Q n) : GQ Q := h.1
theorem RdG.size {mo : Int32} {F : Int32 × (Nat → Int32) × (Nat → Int32) × (Nat → Int32) × (Nat → Int32) × (Nat → Int32) × Nat} {G : Int32 × (Nat → Int32) × (Nat → Int32) × (Nat → Int32) × Nat × Int32 × Int32 × Int32 × (Nat → Int32) × (Nat → Int32) × (Nat → Int32) × Int32 × Nat × Int32 × (Nat → Int32) × (Nat → Int32) × (Nat → Nat) × Nat} {rw rk : Nat → Int32} {zs : Nat → Nat} {kp : Nat} {Q : List KRun} {n : Nat} (h : RdG mo F G rw rk zs kp Q n) : F.2.2.2.2.2.2 = Q.length := h.2.1
theorem RdG.cls {mo : Int32} {F : Int32 × (Nat → Int32) × (Nat → Int32) × (Nat → Int32) × (Nat → Int32) × (Nat → Int32) × Nat} {G : Int32 × (Nat → Int32) × (Nat → Int32) × (Nat → Int32) × Nat × Int32 × Int32 × Int32 × (Nat → Int32) × (Nat → Int32) × (Nat → Int32) × Int32 × Nat × Int32 × (Nat → Int32) × (Nat → Int32) × (Nat → Nat) × Nat} {rw rk : Nat → Int32} {zs : Nat → Nat} {kp : Nat} {Q : List KRun} {n : Nat} (h : RdG mo F G rw rk zs kp Q n) : CQ Q F.2.1 F.2.2.1 F.2.2.2.1 F.2.2.2.2.1 F.2.2.2.2.2.1 := h.2.2.1
theorem RdG.ans {mo : Int32} {F : Int32 × (Nat → Int32) × (Nat → Int32) × (Nat → Int32) × (Nat → Int32) × (Nat → Int32) × Nat} {G : Int32 × (Nat → Int32) × (Nat → Int32) × (Nat → Int32) × Nat × Int32 × Int32 × Int32 × (Nat → Int32) × (Nat → Int32) × (Nat → Int32) × Int32 × Nat × Int32 × (Nat → Int32) × (Nat → Int32) × (Nat → Nat) × Nat} {rw rk : Nat → Int32} {zs : Nat → Nat} {kp : Nat} {Q : List KRun} {n : Nat} (h : RdG mo F G rw rk zs kp Q n) : m_X2_allSignsCounted F.2.1 F.2.2.1 F.2.2.2.2.2.2 = G.1 := h.2.2.2.1
theorem RdG.ref {mo : Int32} {F : Int32 × (Nat → Int32) × (Nat → Int32) × (Nat → Int32) × (Nat → Int32) × (Nat → Int32) × Nat} {G : Int32 × (Nat → Int32) × (Nat → Int32) × (Nat → Int32) × Nat × Int32 × Int32 × Int32 × (Nat → Int32) × (Nat → Int32) × (Nat → Int32) × Int32 × Nat × Int32 × (Nat → Int32) × (Nat → Int32) × (Nat → Nat) × Nat} {rw rk : Nat → Int32} {zs : Nat → Nat} {kp : Nat} {Q : List KRun} {n : Nat} (h : RdG mo F G rw rk zs kp Q n) : RS Q G.2.2.2.2.2.2.2.2.1 G.2.2.2.2.2.2.2.2.2.1 0 n := h.2.2.2.2.1
theorem RdG.la {mo : Int32} {F : Int32 × (Nat → Int32) × (Nat → Int32) × (Nat → Int32) × (Nat → Int32) × (Nat → Int32) × Nat} {G : Int32 × (Nat → Int32) × (Nat → Int32) × (Nat → Int32) × Nat × Int32 × Int32 × Int32 × (Nat → Int32) × (Nat → Int32) × (Nat → Int32) × Int32 × Nat × Int32 × (Nat → Int32) × (Nat → Int32) × (Nat → Nat) × Nat} {rw rk : Nat → Int32} {zs : Nat → Nat} {kp : Nat} {Q : List KRun} {n : Nat} (h : RdG mo F G rw rk zs kp Q n) : G.2.2.2.2.2.2.2.2.2.2.2.1 = nI n := h.2.2.2.2.2.1
theorem RdG.n_le {mo : Int32} {F : Int32 × (Nat → Int32) × (Nat → Int32) × (Nat → Int32) × (Nat → Int32) × (Nat → Int32) × Nat} {G : Int32 × (Nat → Int32) × (Nat → Int32) × (Nat → Int32) × Nat × Int32 × Int32 × Int32 × (Nat → Int32) × (Nat → Int32) × (Nat → Int32) × Int32 × Nat × Int32 × (Nat → Int32) × (Nat → Int32) × (Nat → Nat) × Nat} {rw rk : Nat → Int32} {zs : Nat → Nat} {kp : Nat} {Q : List KRun} {n : Nat} (h : RdG mo F G rw rk zs kp Q n) : n ≤ 10200 := h.2.2.2.2.2.2.1
theorem RdG.lets {mo : Int32} {F : Int32 × (Nat → Int32) × (Nat → Int32) × (Nat → Int32) × (Nat → Int32) × (Nat → Int32) × Nat} {G : Int32 × (Nat → Int32) × (Nat → Int32) × (Nat → Int32) × Nat × Int32 × Int32 × Int32 × (Nat → Int32) × (Nat → Int32) × (Nat → Int32) × Int32 × Nat × Int32 × (Nat → Int32) × (Nat → Int32) × (Nat → Nat) × Nat} {rw rk : Nat → Int32} {zs : Nat → Nat} {kp : Nat} {Q : List KRun} {n : Nat} (h : RdG mo F G rw rk zs kp Q n) : RLt mo Q G.2.2.2.2.2.2.2.2.2.2.1 G.2.2.2.2.2.2.2.2.2.2.2.2.1 := h.2.2.2.2.2.2.2.1
theorem RdG.sh_le {mo : Int32} {F : Int32 × (Nat → Int32) × (Nat → Int32) × (Nat → Int32) × (Nat → Int32) × (Nat → Int32) × Nat} {G : Int32 × (Nat → Int32) × (Nat → Int32) × (Nat → Int32) × Nat × Int32 × Int32 × Int32 × (Nat → Int32) × (Nat → Int32) × (Nat → Int32) × Int32 × Nat × Int32 × (Nat → Int32) × (Nat → Int32) × (Nat → Nat) × Nat} {rw rk : Nat → Int32} {zs : Nat → Nat} {kp : Nat} {Q : List KRun} {n : Nat} (h : RdG mo F G rw rk zs kp Q n) : G.2.2.2.2.2.2.2.2.2.2.2.2.1 ≤ 10200 := h.2.2.2.2.2.2.2.2.1
theorem RdG.full {mo : Int32} {F : Int32 × (Nat → Int32) × (Nat → Int32) × (Nat → Int32) × (Nat → Int32) × (Nat → Int32) × Nat} {G : Int32 × (Nat → Int32) × (Nat → Int32) × (Nat → Int32) × Nat × Int32 × Int32 × Int32 × (Nat → Int32) × (Nat → Int32) × (Nat → Int32) × Int32 × Nat × Int32 × (Nat → Int32) × (Nat → Int32) × (Nat → Nat) × Nat} {rw rk : Nat → Int32} {zs : Nat → Nat} {kp : Nat} {Q : List KRun} {n : Nat} (h : RdG mo F G rw rk zs kp Q n) : 40 ≤ kp → G.2.2.2.2.2.2.2.2.2.2.2.2.2.2 = (rw, rk, zs, kp) := h.2.2.2.2.2.2.2.2.2.1
theorem RdG.kept {mo : Int32} {F : Int32 × (Nat → Int32) × (Nat → Int32) × (Nat → Int32) × (Nat → Int32) × (Nat → Int32) × Nat} {G : Int32 × (Nat → Int32) × (Nat → Int32) × (Nat → Int32) × Nat × Int32 × Int32 × Int32 × (Nat → Int32) × (Nat → Int32) × (Nat → Int32) × Int32 × Nat × Int32 × (Nat → Int32) × (Nat → Int32) × (Nat → Nat) × Nat} {rw rk : Nat → Int32} {zs : Nat → Nat} {kp : Nat} {Q : List KRun} {n : Nat} (h : RdG mo F G rw rk zs kp Q n) : kp < 40 → G.2.2.2.2.2.2.2.2.2.2.2.2.2.2.2.2 = (va_up zs kp n, kp + 1) ∧ RS Q G.2.2.2.2.2.2.2.2.2.2.2.2.2.2.1 G.2.2.2.2.2.2.2.2.2.2.2.2.2.2.2.1 (10200 * kp) n ∧ ∀ j, j < 10200 * kp → G.2.2.2.2.2.2.2.2.2.2.2.2.2.2.1 j = rw j ∧ G.2.2.2.2.2.2.2.2.2.2.2.2.2.2.2.1 j = rk j := h.2.2.2.2.2.2.2.2.2.2
/-- the rest of the reference's state, as a bad reading leaves it -/
def RdB (G : Int32 × (Nat → Int32) × (Nat → Int32) × (Nat → Int32) × Nat × Int32 × Int32 × Int32 × (Nat → Int32) × (Nat → Int32) × (Nat → Int32) × Int32 × Nat × Int32 × (Nat → Int32) × (Nat → Int32) × (Nat → Nat) × Nat) (sn kn lt : Nat → Int32) (la : Int32) (sh : Nat) (mf : Int32) (rw rk : Nat → Int32) (zs : Nat → Nat) (kp : Nat) : Prop := G.2.2.2.2.2.2.2.2 = (sn, kn, lt, la, sh, mf, rw, rk, zs, kp)
theorem RS_of {Q : List KRun} {rd pl kk sn kn : Nat → Int32} {my : Nat} (fr : Nat) (hRQ : RQ (exq Q) rd pl kk my) (hm : my = (exq Q).length) (h : ∀ j, j < my → sn (fr + j) = rd j ∧ kn (fr + j) = kk j) : RS Q sn kn fr my := by
  refine ⟨hm, fun j q hq => ?_⟩
  have hj : j < my := by rw [hm]; exact (List.getElem?_eq_some_iff.mp hq).1
  obtain ⟨g1, g2⟩ := h j hj
  obtain ⟨r1, -, r3⟩ := hRQ j q hj hq
  rw [g1, g2]; exact ⟨r1, r3⟩
theorem reading {cs tx tb ss ts ps ks ds rd pl kd sn kn lt rw rk : Nat → Int32} {zs : Nat → Nat} {len sz my kp sh : Nat} {mo pu mi ms la mf : Int32} (hT : TX cs tx len) (hlen : len ≤ 80) (hm1 : ¬ mo < 33) (hm2 : ¬ 126 < mo) (htb : ∀ a, a < 19 → tb a = tbL.getD a 0) :
    ((m_X4_firstWrongPlace ss ts ps ks ds sz cs len mo).1 = -1 → ∃ Q n, RdG mo (m_X4_firstWrongPlace ss ts ps ks ds sz cs len mo) (m_X5_read tx rd pl kd sn kn lt rw rk zs tb len mo my pu mi ms la kp sh mf) rw rk zs kp Q n) ∧
    (¬ (m_X4_firstWrongPlace ss ts ps ks ds sz cs len mo).1 = -1 → (m_X4_read_b ss ts ps ks ds sz cs len mo).1 = (m_X5_read tx rd pl kd sn kn lt rw rk zs tb len mo my pu mi ms la kp sh mf).1 ∧ RdB (m_X5_read tx rd pl kd sn kn lt rw rk zs tb len mo my pu mi ms la kp sh mf) sn kn lt la sh mf rw rk zs kp) ∧
    rdOK rd pl my pu mi ms tx len mo kd tb := by
  have hts := take_scan hT hlen hm1 hm2 81 101 0 [] ss ts ps rd pl 0 0 0 0 ⟨by simp, fun r h => nomatch h⟩ (Nat.zero_le _) ⟨(fun r h => nomatch h), List.Pairwise.nil⟩ (fun i r h => nomatch h) ⟨rfl, fun j q h => absurd h (by omega), rfl, rfl, rfl⟩ (by simp) (by omega) (by omega)
  have hsc : m_X5_scan rd pl my pu mi ms tx len mo = m_X5_scan_L22 tx len mo 101 0 rd pl 0 0 0 0 := rfl
  have htk : m_X2_take ss ts ps sz cs len mo = m_X2_take_L10 cs len mo 81 0 0 ss ts ps := rfl
  have hts' : TSrel (m_X2_take ss ts ps sz cs len mo) (m_X5_scan rd pl my pu mi ms tx len mo) := hts
  clear hts hsc htk
  unfold m_X4_firstWrongPlace m_X4_read_b m_X4_firstWrongPlace m_X5_read rdOK
  generalize m_X2_take ss ts ps sz cs len mo = T at hts' ⊢
  generalize m_X5_scan rd pl my pu mi ms tx len mo = S at hts' ⊢
  obtain ⟨r, ss1, ts1, ps1, sz1⟩ := T
  obtain ⟨r2, rd1, pl1, my1, pu1, mi1, ms1⟩ := S
  obtain ⟨h1, h2⟩ := hts'
  dsimp only at h1 h2 ⊢
  subst h1
  by_cases hr : r = -1
  · obtain ⟨R, hO, hpw, hsz, hC, hR⟩ := h2 hr
    subst hr
    subst hsz
    obtain ⟨w1, w2⟩ := wrong_same (ks := ks) (ds := ds) (kk := kd) (tb := tb) (len := len) hO hpw hC hR htb
    have hfm := fm_class_eq (ks := ks) (ds := ds) hO hC
    have hCQ := CQ_of (ks := ks) (ds := ds) hO hC
    have hK : ∀ q ∈ anR R, KOK q := ann_kok (mny R) R false true true hO.2
    have hlenR : (anR R).length = R.length := ann_len (mny R) R false true true
    have hpres := present_eq (m := 278464) (p := mainK) pres_bits (fun t a h => (hCQ t a h).2.2.2.1) hK
    rw [hlenR] at hpres
    obtain ⟨hmy, hRQ⟩ := RQ_of (kk := kd) hO hR
    rw [if_pos rfl, if_pos rfl, hfm, w1]
    cases hc : fm [] 0 0 (anR R) with
    | some p =>
      have hp80 : p < 80 := by
        have : ∀ (S A : List KRun) d w, fm A d w S = some p → (∀ q ∈ S, KOK q) → p < 80 := by
          intro S
          induction S with
          | nil => intro A d w h; cases h
          | cons q S ih =>
            intro A d w h hk
            have h' : (if okq A d w q then fm (A ++ [q]) (d + dgs A q q.1.2.1) (w + wdN q.1.1 * q.1.2.1) S else some q.1.2.2) = some p := h
            by_cases ho : okq A d w q
            · rw [if_pos ho] at h'; exact ih _ _ _ h' (fun x hx => hk x (List.mem_cons_of_mem _ hx))
            · rw [if_neg ho] at h'; cases h'; exact (hk q (List.mem_cons_self ..)).2.2.2.1
        exact this _ _ _ _ hc hK
      have hn1 : ¬ nI p = -1 := nI_nm1 (by omega)
      show (_ → _) ∧ (_ → _) ∧ _
      rw [show fmI (some p) = nI p from rfl, if_neg hn1]
      show (nI p = -1 → _) ∧ (¬ nI p = -1 → _) ∧ _
      refine ⟨fun h => absurd h hn1, fun _ => ?_, ?_⟩
      · rw [if_neg hn1]; exact ⟨rfl, rfl⟩
      · intro r' rd2 pl2 my2 pu2 mi2 ms2 he _ hw
        cases he
        rw [w1, hc] at hw
        exact absurd hw hn1
    | none =>
      show (_ → _) ∧ (_ → _) ∧ _
      rw [show fmI none = -1 from rfl, if_pos rfl]
      by_cases hmn : (anR R).any (fun a => mainK a.2) = false
      · have hl1 : ¬ nI len = -1 := nI_nm1 (by omega)
        rw [if_pos (hpres.mpr hmn), if_pos hmn, if_neg hl1]
        show (nI len = -1 → _) ∧ (¬ nI len = -1 → _) ∧ _
        refine ⟨fun h => absurd h hl1, fun _ => ⟨rfl, rfl⟩, ?_⟩
        intro r' rd2 pl2 my2 pu2 mi2 ms2 he _ hw
        cases he
        rw [w1, hc] at hw
        have hw' : (if (anR R).any (fun a => mainK a.2) = false then nI len else -1) = -1 := hw
        rw [if_pos hmn] at hw'
        exact absurd hw' hl1
      · rw [if_neg (fun h => hmn (hpres.mp h)), if_neg hmn, if_pos rfl]
        obtain ⟨hmE, hinv⟩ := w2 hc
        have hG := GQ_of hO hc hinv
        have hsz := Nat.le_trans (exq_let _) hG.size
        have hE : ∀ t a, (exq (anR R))[t]? = some a → rd1 t = tau a.1.1 := fun t a h => (hRQ t a (by rw [hmE]; exact (List.getElem?_eq_some_iff.mp h).1) h).1
        show ((-1 : Int32) = -1 → _) ∧ (¬ (-1 : Int32) = -1 → _) ∧ _
        refine ⟨fun _ => ?_, fun h => absurd rfl h, ?_⟩
        · obtain ⟨sn2, kn2, e1, -, e3⟩ := rd61 (kd := kd) (lt0 := lt) (rw := rw) (rk := rk) (zs := zs) (mo := mo) (kp := kp) (rd := rd1) (pl := pl1) (my := my1) (pu := pu1) (mi := mi1) (ms := ms1) my1 0 sn kn (my1 + 1) (by omega) (by omega)
          obtain ⟨lt2, f1, -, f3⟩ := rd108 (kd := kd) (rw := rw) (rk := rk) (zs := zs) (mo := mo) (kp := kp) (rd := rd1) (pl := pl1) (my := my1) (pu := pu1) (mi := mi1) (ms := ms1) (sn := sn2) (kn := kn2) (exq (anR R)) (my1 + 1) 0 0 lt 0 (fun t a h => by rw [Nat.zero_add]; exact hE t a h) (fun a ha => hK a (exq_mem ha)) (by omega) (by omega)
          have f1' : m_X5_read_L108 kd rw rk zs mo kp rd1 pl1 my1 pu1 mi1 ms1 sn2 kn2 (my1 + 1) 0 0 lt 0 = _ := f1
          rw [e1, f1', Nat.zero_add, Nat.zero_add, wid_sum]
          have hRS : RS (anR R) sn2 kn2 0 my1 := RS_of 0 hRQ hmE (fun j hj => by rw [Nat.zero_add]; exact e3 j (by omega) hj)
          have hL : RLt mo (anR R) lt2 (lets mo (exq (anR R))).length := ⟨rfl, fun j v h => by have := f3 j v h; rw [Nat.zero_add] at this; exact this⟩
          have hsh : (lets mo (exq (anR R))).length ≤ 10200 := by rw [lets_len mo _ hK]; have := hG.size; omega
          have hans : m_X2_allSignsCounted ss1 ts1 R.length = nI (widN (anR R)) := by
            have := counted_eq (Q := anR R) (ss := ss1) (ts := ts1) (fun t a h => ⟨(hCQ t a h).1, (hCQ t a h).2.1⟩)
            rw [hlenR] at this
            exact this
          unfold FIN
          by_cases h40 : 40 ≤ kp
          · rw [if_pos h40]
            exact ⟨anR R, my1, hG, hlenR.symm, hCQ, hans, hRS, rfl, by omega, hL, hsh, fun _ => rfl, fun h => by omega⟩
          · rw [if_neg h40]
            unfold m_X5_keep
            obtain ⟨rw2, rk2, k1, -, k3, k4⟩ := keep15 (zs := zs) (kp := kp) (rd := rd1) (my := my1) (kk := m_X5_sorts rd1 kd my1 pu1 mi1 ms1) my1 0 (my1 + 1) rw rk (by omega) (by omega)
            rw [k1]
            exact ⟨anR R, my1, hG, hlenR.symm, hCQ, hans, hRS, rfl, by omega, hL, hsh, fun h => absurd h h40, fun _ => ⟨rfl, RS_of (10200 * kp) hRQ hmE (fun j hj => k4 j (by omega) hj), k3⟩⟩
        · intro r' rd2 pl2 my2 pu2 mi2 ms2 he _ _
          cases he
          have := shw_eq (rd := rd1) mo (E := exq (anR R)) (fun a ha => hK a (exq_mem ha)) hE (exq (anR R)).length (Nat.le_refl _)
          rw [List.take_length, lets_len mo _ hK] at this
          rw [hmE, this]
          have := hG.size
          omega
  · rw [if_neg hr, if_neg hr]
    show (r = -1 → _) ∧ (¬ r = -1 → _) ∧ _
    refine ⟨fun h => absurd h hr, fun _ => ⟨rfl, rfl⟩, ?_⟩
    intro r' rd2 pl2 my2 pu2 mi2 ms2 he h _
    cases he
    exact absurd h hr
/-- a character more -/
theorem sign_TX {cs tx : Nat → Int32} {len : Nat} (hT : TX cs tx len) (hlen : len ≤ 80) (c : Int32) : (m_X4_sign cs len c).2 = (m_X5_sign tx len c).2 ∧ TX (m_X4_sign cs len c).1 (m_X5_sign tx len c).1 (m_X5_sign tx len c).2 ∧ (m_X5_sign tx len c).2 ≤ 80 := by
  unfold m_X4_sign m_X3_append m_X5_sign
  by_cases h : len = 80
  · rw [if_neg (by omega), if_pos h]
    exact ⟨rfl, hT, hlen⟩
  · rw [if_pos (by omega), if_neg h]
    refine ⟨rfl, fun j hj => ?_, by show len + 1 ≤ 80; omega⟩
    show upd cs len (m_X3_append_j41_s0 c) j = nrm (upd tx len c j)
    by_cases e : j = len
    · subst e; rw [pk_us, pk_us]; rfl
    · rw [pk_un e, pk_un e]
      exact hT j (by have : j < len + 1 := hj; omega)
theorem cur_tab : ∀ k, k < 127 → 33 ≤ k → ∀ mo : Bool, (m_X4_canBeCurrency (nI k) = true ↔ ((nI k < 48 ∨ ¬ nI k ≤ 57) ∧ m_X5_currency_j87_s0 (nI k) = false ∧ m_X5_currency_j165_s0 (nI k) = false)) := by decide +kernel
theorem currency_same (mo c : Int32) : m_X4_currency mo c = m_X5_currency mo c := by
  unfold m_X4_currency m_X5_currency
  by_cases h1 : c < 33
  · have : m_X4_canBeCurrency c = false := by unfold m_X4_canBeCurrency; rw [if_pos h1]
    rw [if_pos h1, if_pos this]
  rw [if_neg h1]
  by_cases h2 : 126 < c
  · have : m_X4_canBeCurrency c = false := by unfold m_X4_canBeCurrency; rw [if_neg h1, if_pos h2]
    rw [if_pos h2, if_pos this]
  rw [if_neg h2]
  have h0 : ¬ c < 1 := fun q => h1 (Int32.lt_iff_toInt_lt.mpr (by have := Int32.lt_iff_toInt_lt.mp q; rw [show (1 : Int32).toInt = 1 from by decide] at this; rw [show (33 : Int32).toInt = 33 from by decide]; omega))
  obtain ⟨k, hk, rfl⟩ := in127 h0 h2
  have h33 : 33 ≤ k := by
    rcases Nat.lt_or_ge k 33 with q | q
    · exact absurd (nI_lt (a := k) (b := 33) q (by omega)) h1
    · exact q
  have ht := cur_tab k hk h33 true
  by_cases g : m_X4_canBeCurrency (nI k) = true
  · obtain ⟨a, b, d⟩ := ht.mp g
    rw [if_neg (by rw [g]; decide), b, d]
    by_cases e : nI k < 48
    · rw [if_pos e, if_pos rfl, if_pos rfl]
    · rw [if_neg e, if_neg (a.resolve_left e), if_pos rfl, if_pos rfl]
  · rw [if_pos (bf.mpr g)]
    by_cases e : nI k < 48
    · rw [if_pos e]
      by_cases b : m_X5_currency_j87_s0 (nI k) = false
      · rw [if_pos b]
        by_cases d : m_X5_currency_j165_s0 (nI k) = false
        · exact absurd (ht.mpr ⟨Or.inl e, b, d⟩) g
        · rw [if_neg d]
      · rw [if_neg b]
    · rw [if_neg e]
      by_cases f : nI k ≤ 57
      · rw [if_pos f]
      · rw [if_neg f]
        by_cases b : m_X5_currency_j87_s0 (nI k) = false
        · rw [if_pos b]
          by_cases d : m_X5_currency_j165_s0 (nI k) = false
          · exact absurd (ht.mpr ⟨Or.inr f, b, d⟩) g
          · rw [if_neg d]
        · rw [if_neg b]
theorem currency_in {mo : Int32} (h1 : ¬ mo < 33) (h2 : ¬ 126 < mo) (c : Int32) : ¬ (m_X5_currency mo c).2 < 33 ∧ ¬ 126 < (m_X5_currency mo c).2 := by
  unfold m_X5_currency
  by_cases a : c < 33
  · rw [if_pos a]; exact ⟨h1, h2⟩
  rw [if_neg a]
  by_cases b : 126 < c
  · rw [if_pos b]; exact ⟨h1, h2⟩
  rw [if_neg b]
  have k1 : ¬ c < 33 ∧ ¬ 126 < c := ⟨a, b⟩
  split
  · split
    · split
      · exact k1
      · exact ⟨h1, h2⟩
    · exact ⟨h1, h2⟩
  · split
    · exact ⟨h1, h2⟩
    · split
      · split
        · exact k1
        · exact ⟨h1, h2⟩
      · exact ⟨h1, h2⟩
/-- follows: both kinds are kinds -/
theorem follows_in {tb : Nat → Int32} {a b : Int32} (htb : ∀ a, a < 19 → tb a = tbL.getD a 0) (ha : m_X4_isKind a = true) (hb : m_X4_isKind b = true) : m_X5_follows tb a b = (m_X4_follows a b, 0) := by
  have na : ¬ a < 0 ∧ ¬ 19 ≤ a := by
    unfold m_X4_isKind at ha
    by_cases c : a < 0
    · rw [if_pos c] at ha; cases ha
    · rw [if_neg c] at ha
      by_cases d : 19 ≤ a
      · rw [if_pos d] at ha; cases ha
      · exact ⟨c, d⟩
  have nb : ¬ b < 0 ∧ ¬ 19 ≤ b := by
    unfold m_X4_isKind at hb
    by_cases c : b < 0
    · rw [if_pos c] at hb; cases hb
    · rw [if_neg c] at hb
      by_cases d : 19 ≤ b
      · rw [if_pos d] at hb; cases hb
      · exact ⟨c, d⟩
  obtain ⟨j, hj, rfl⟩ := nI_of na.1
  have hj19 : j < 19 := by
    rcases Nat.lt_or_ge j 19 with q | q
    · exact q
    · exact absurd (nI_le (a := 19) (b := j) q hj) na.2
  have e : m_X5_follows_j25_s0 (nI j) b = true := by
    unfold m_X5_follows_j25_s0
    rw [if_neg na.1, if_neg na.2, if_neg nb.1, if_neg nb.2]
  unfold m_X5_follows m_X5_follows_j36_s0 m_X4_follows m_X4_holds
  rw [e, if_neg (by decide), nI_clamp hj, htb j hj19]
  rcases bit01 (tbL.getD j 0 >>> (b &&& 31)) with h | h
  · rw [h, if_neg (by decide), if_pos rfl]; rfl
  · rw [h, if_pos rfl, if_neg (by decide)]; rfl
theorem follows_out {tb : Nat → Int32} {a b : Int32} (h : ¬ (m_X4_isKind a = true ∧ m_X4_isKind b = true)) : m_X5_follows tb a b = (false, 1) := by
  have e : m_X5_follows_j25_s0 a b = false := by
    unfold m_X5_follows_j25_s0
    unfold m_X4_isKind at h
    by_cases c1 : a < 0
    · rw [if_pos c1]
    rw [if_neg c1]
    by_cases c2 : 19 ≤ a
    · rw [if_pos c2]
    rw [if_neg c2]
    by_cases c3 : b < 0
    · rw [if_pos c3]
    rw [if_neg c3]
    by_cases c4 : 19 ≤ b
    · rw [if_pos c4]
    · exact absurd ⟨by rw [if_neg c1, if_neg c2], by rw [if_neg c3, if_neg c4]⟩ h
  unfold m_X5_follows m_X5_follows_j36_s0
  rw [e, if_pos rfl, if_pos rfl]; rfl
