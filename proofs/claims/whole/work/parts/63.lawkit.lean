/-! the law: its cells, and what its loop keeps -/
abbrev gA (s : State) : Nat → Prop := fun q => s.heap.size ≤ q
def pk (ws : va_W) (is : List Nat) : va_W := is.filterMap (fun i => ws[i]?)
def lo (base : Nat) (ws : va_W) : Prop := ∀ (k : Nat) (q : Nat × va_E), ws[k]? = some q → q.1 < base
def hib (base : Nat) (ws : va_W) : Prop := ∀ (k : Nat) (q : Nat × va_E), ws[k]? = some q → base ≤ q.1
theorem lo_of {base : Nat} {ws : va_W} {d : Nat → Nat} (h : ws.map (·.1) = (List.range 25).map d) (hd : ∀ i, i < 25 → d i < base) : lo base ws := by
  intro k q hq
  have h1 : (ws.map (·.1))[k]? = some q.1 := by rw [List.getElem?_map, hq]; rfl
  rw [h, List.getElem?_map] at h1
  cases hk : (List.range 25)[k]? with
  | none => rw [hk] at h1; cases h1
  | some j =>
    rw [hk] at h1
    have h2 : d j = q.1 := Option.some.inj h1
    have : j ∈ List.range 25 := List.mem_of_getElem? hk
    rw [← h2]
    exact hd j (List.mem_range.mp this)
theorem lo.sub {base : Nat} {ws wc : va_W} {isC : List Nat} (h : lo base ws) (hC : isC.map (fun i => ws[i]?) = wc.map some) : lo base wc := by
  intro k q hq
  have h1 : (isC.map (fun i => ws[i]?))[k]? = some (some q) := by rw [hC, List.getElem?_map, hq]; rfl
  rw [List.getElem?_map] at h1
  cases hi : isC[k]? with
  | none => rw [hi] at h1; cases h1
  | some i => rw [hi] at h1; exact h i q (Option.some.inj h1)
section WL
variable {p : Program} {l : Launch} {e : Env} {R : Room} {s : State} {m : MethodId} {args : Array Value} {below : List Frame} {meth : Method} {c : Code} {H : Heap} {locs : List Loc} {cells slots mc ms : Nat} {Q : State → Prop}
variable {pc : Nat} {ls : Array Slot} {rest st0 : List Value} {D : va_G} {cl : List vw_C} {wc wr ws : va_W} {tc : List (ClassId × FieldType)} {a : Array Value} {A : Nat → Prop} {S : Type} {base : Nat}
theorem wl_goV {post : S → Prop} {w1 : S → va_W} (hr : va_Run p l e R s m args below meth c H locs cells slots mc ms (F0 m pc ls st0) rest (va_Qv post (wr_B D cl w1 tc (va_A wc H.size)) (va_A wc H.size) a) (va_A wc H.size)) (hP : va_P D cl ws H) (hD : va_D A ws) (hS : va_S A s.heap H locs) (hF : ∀ q, va_A wc H.size q → A q) (isC isR : List Nat) (hC : isC.map (fun i => ws[i]?) = wc.map some) (hR : isR.map (fun i => ws[i]?) = wr.map some) (hn : va_nd isR = true) (hdis : ∀ i ∈ isR, i ∉ isC) (hlo : lo base ws)
    (kk : ∀ (u : S) (H1 : Heap) (locs1 : List Loc), post u → va_P D cl (wr ++ w1 u) H1 → va_D A (wr ++ w1 u) → va_S A s.heap H1 locs1 → va_D (va_A wc H.size) (w1 u) → H.size ≤ H1.size → (∀ q : Nat, base ≤ q → q < H.size → H1[q]? = H[q]?) → W p l e R s m args below meth c H1 locs1 (cells + mc) (slots + ms) Q (F0 m (pc + 3) ls rest)) : W p l e R s m args below meth c H locs cells slots Q (F0 m pc ls st0) :=
  va_callv hr hS (fun q _ h => hF q h) hF (fun u t H1 locs1 ht hvm hw hB hz1 hk1 hS1 => by
    obtain ⟨hP1, hK1, hD1⟩ := hB
    rw [ht] at hP1
    obtain ⟨hP2, hD2⟩ := va_join hP hD isC isR hC hR hn hdis hk1 hF hP1 hD1
    exact kk u H1 locs1 hw hP2 hD2 hS1 hD1 hz1 (fun q h1 h2 => hk1 q h2 (fun z => by
      rcases z with ⟨k, e9, z⟩ | z
      · have := hlo.sub hC k _ z; omega
      · omega)))
theorem wl_goI {post : Int32 → S → Prop} {w1 : S → va_W} (hr : va_Run p l e R s m args below meth c H locs cells slots mc ms (F0 m pc ls st0) rest (va_Qi post (wr_B D cl w1 tc (va_A wc H.size)) (va_A wc H.size) a) (va_A wc H.size)) (hP : va_P D cl ws H) (hD : va_D A ws) (hS : va_S A s.heap H locs) (hF : ∀ q, va_A wc H.size q → A q) (isC isR : List Nat) (hC : isC.map (fun i => ws[i]?) = wc.map some) (hR : isR.map (fun i => ws[i]?) = wr.map some) (hn : va_nd isR = true) (hdis : ∀ i ∈ isR, i ∉ isC) (hlo : lo base ws)
    (kk : ∀ (r : Int32) (u : S) (H1 : Heap) (locs1 : List Loc), post r u → va_P D cl (wr ++ w1 u) H1 → va_D A (wr ++ w1 u) → va_S A s.heap H1 locs1 → va_D (va_A wc H.size) (w1 u) → H.size ≤ H1.size → (∀ q : Nat, base ≤ q → q < H.size → H1[q]? = H[q]?) → W p l e R s m args below meth c H1 locs1 (cells + mc) (slots + ms) Q (F0 m (pc + 3) ls (.int r :: rest))) : W p l e R s m args below meth c H locs cells slots Q (F0 m pc ls st0) :=
  va_calli hr hS (fun q _ h => hF q h) hF (fun r u t H1 locs1 ht hvm hw hB hz1 hk1 hS1 => by
    obtain ⟨hP1, hK1, hD1⟩ := hB
    rw [ht] at hP1
    obtain ⟨hP2, hD2⟩ := va_join hP hD isC isR hC hR hn hdis hk1 hF hP1 hD1
    exact kk r u H1 locs1 hw hP2 hD2 hS1 hD1 hz1 (fun q h1 h2 => hk1 q h2 (fun z => by
      rcases z with ⟨k, e9, z⟩ | z
      · have := hlo.sub hC k _ z; omega
      · omega)))
end WL
/-- the law's 25 cells -/
abbrev WS (d : Nat → Nat) (cA cP cL : ClassId) (kc : Nat) (la : Option Nat) (cu : Int32) (len : Nat) (cs : Nat → Int32) (sz : Nat) (ss ts ps ks ds : Nat → Int32) (kf : Nat → Option Nat) (th : Int32) (lenM : Nat) (mo : Int32) (my : Nat) (pu mi ms lam : Int32) (kp sh : Nat) (mf : Int32) (tx rd pl kd sn kn lt rw rk : Nat → Int32) (zs : Nat → Nat) (tb mn it : Nat → Int32) (f : Nat → Int64) : va_W :=
  [(d 0, .inr (5, [.ref (d 1), .ref (d 3), .ref (d 9), .int (nI kc), va_rf la, .int cu])), (d 1, .inr (4, [.ref (d 2), .int (nI len)])), (d 2, .inl (cA, 80, .inl cs)), (d 3, .inr (3, [.ref (d 4), .ref (d 5), .ref (d 6), .ref (d 7), .ref (d 8), .int (nI sz)])), (d 4, .inl (cA, 80, .inl ss)), (d 5, .inl (cA, 80, .inl ts)), (d 6, .inl (cA, 80, .inl ps)), (d 7, .inl (cA, 80, .inl ks)), (d 8, .inl (cA, 80, .inl ds)), (d 9, .inl (cP, 40, .inr (.inr (.inr (.inr kf))))),
   (d 10, .inr (6, [.int th, .ref (d 11), .int (nI lenM), .int mo, .ref (d 12), .ref (d 13), .ref (d 14), .int (nI my), .int pu, .int mi, .int ms, .ref (d 15), .ref (d 16), .ref (d 17), .int lam, .int (nI kp), .int (nI sh), .int mf, .ref (d 18), .ref (d 19), .ref (d 20), .ref (d 21), .ref (d 22), .ref (d 23)])), (d 11, .inl (cA, 80, .inl tx)), (d 12, .inl (cA, 10200, .inl rd)), (d 13, .inl (cA, 10200, .inl pl)), (d 14, .inl (cA, 10200, .inl kd)), (d 15, .inl (cA, 10200, .inl sn)), (d 16, .inl (cA, 10200, .inl kn)), (d 17, .inl (cA, 10200, .inl lt)), (d 18, .inl (cA, 408000, .inl rw)), (d 19, .inl (cA, 408000, .inl rk)), (d 20, .inl (cA, 40, .inl (nuF zs))), (d 21, .inl (cA, 19, .inl tb)), (d 22, .inl (cA, 10200, .inl mn)), (d 23, .inl (cA, 10200, .inl it)),
   (d 24, .inl (cL, 1, .inr (.inl f)))]
/-- a picture's seven cells -/
abbrev WP (cA : ClassId) (n p p1 p2 p3 p4 p5 p6 : Nat) (pcu sc cat da db scl : Int32) (ss ts ks es et : Nat → Int32) (ez : Nat) : va_W :=
  [(p, .inr (2, [.ref p1, .ref p2, .ref p3, .int pcu, .int sc, .int cat, .int da, .int db, .int scl, .ref p4])), (p1, .inl (cA, n, .inl ss)), (p2, .inl (cA, n, .inl ts)), (p3, .inl (cA, n, .inl ks)), (p4, .inr (1, [.ref p5, .ref p6, .int (nI ez)])), (p5, .inl (cA, n, .inl es)), (p6, .inl (cA, n, .inl et))]
/-- what a picture answers, of the rows that it was read from -/
def ANS (Q : List KRun) (cat da db scl : Int32) : Prop := ∃ s1 t1 q1 k1 d1 : Nat → Int32, CQ Q s1 t1 q1 k1 d1 ∧ cat = m_X2_categoryOf s1 Q.length (m_X2_kindsPresent k1 Q.length) ∧ da = m_X2_digitsIn d1 Q.length 0 (m_X2_pointRun k1 Q.length) ∧ db = m_X2_digitsIn d1 Q.length (m_X2_pointRun k1 Q.length) Q.length ∧ scl = m_X1_init_j131_s0 s1 t1 k1 d1 Q.length
def PIC (D : va_G) (cA : ClassId) (base : Nat) (H : Heap) (p : Nat) (Q : List KRun) (pcu : Int32) : Prop := GQ Q ∧ ∃ (p1 p2 p3 p4 p5 p6 : Nat) (sc cat da db scl : Int32) (ss ts ks es et : Nat → Int32) (ez : Nat), va_P D vwCl (WP cA Q.length p p1 p2 p3 p4 p5 p6 pcu sc cat da db scl ss ts ks es et ez) H ∧ hib base (WP cA Q.length p p1 p2 p3 p4 p5 p6 pcu sc cat da db scl ss ts ks es et ez) ∧ CP Q ss ts ks ∧ EF Q es et ez ∧ ANS Q cat da db scl
theorem PIC.kept {D : va_G} {cA : ClassId} {base : Nat} {H H1 : Heap} {p : Nat} {Q : List KRun} {pcu : Int32} (h : PIC D cA base H p Q pcu) (hk : ∀ q : Nat, base ≤ q → q < H.size → H1[q]? = H[q]?) : PIC D cA base H1 p Q pcu := by
  obtain ⟨hG, p1, p2, p3, p4, p5, p6, sc, cat, da, db, scl, ss, ts, ks, es, et, ez, hP, hh, r⟩ := h
  exact ⟨hG, p1, p2, p3, p4, p5, p6, sc, cat, da, db, scl, ss, ts, ks, es, et, ez, hP.kept (fun k q hq => hk q.1 (hh k q hq) (hP k q hq).lt), hh, r⟩
def KEPT (D : va_G) (cA : ClassId) (base : Nat) (H : Heap) (kc : Nat) (kf : Nat → Option Nat) (rw rk : Nat → Int32) (zs : Nat → Nat) : Prop := ∀ i, i < kc → ∃ (r : Nat) (Q : List KRun) (pcu : Int32), kf i = some r ∧ PIC D cA base H r Q pcu ∧ RS Q rw rk (10200 * i) (zs i)
def LAST (D : va_G) (cA : ClassId) (base : Nat) (H : Heap) (la : Option Nat) (lam : Int32) (sh : Nat) (sn kn lt : Nat → Int32) : Prop := (la = none ∧ lam = -1) ∨ ∃ (p : Nat) (Q : List KRun) (pcu : Int32) (n : Nat), la = some p ∧ PIC D cA base H p Q pcu ∧ RS Q sn kn 0 n ∧ lam = nI n ∧ n ≤ 10200 ∧ RLt pcu Q lt sh ∧ sh ≤ 10200
theorem KEPT.kept {D : va_G} {cA : ClassId} {base : Nat} {H H1 : Heap} {kc : Nat} {kf : Nat → Option Nat} {rw rk : Nat → Int32} {zs : Nat → Nat} (h : KEPT D cA base H kc kf rw rk zs) (hk : ∀ q : Nat, base ≤ q → q < H.size → H1[q]? = H[q]?) : KEPT D cA base H1 kc kf rw rk zs := fun i hi => by
  obtain ⟨r, Q, pcu, h1, h2, h3⟩ := h i hi
  exact ⟨r, Q, pcu, h1, h2.kept hk, h3⟩
theorem LAST.kept {D : va_G} {cA : ClassId} {base : Nat} {H H1 : Heap} {la : Option Nat} {lam : Int32} {sh : Nat} {sn kn lt : Nat → Int32} (h : LAST D cA base H la lam sh sn kn lt) (hk : ∀ q : Nat, base ≤ q → q < H.size → H1[q]? = H[q]?) : LAST D cA base H1 la lam sh sn kn lt := by
  rcases h with h | ⟨p, Q, pcu, n, h1, h2, h3⟩
  · exact Or.inl h
  · exact Or.inr ⟨p, Q, pcu, n, h1, h2.kept hk, h3⟩
/-- the numbers that class and reference share -/
def NUM (kc : Nat) (cu : Int32) (len : Nat) (cs tx tb : Nat → Int32) : Prop := len ≤ 80 ∧ kc ≤ 40 ∧ TX cs tx len ∧ ¬ cu < 33 ∧ ¬ 126 < cu ∧ ∀ a, a < 19 → tb a = tbL.getD a 0
def INV (D : va_G) (cA cP cL : ClassId) (s : State) (d : Nat → Nat) (base : Nat) (H : Heap) (locs : List Loc) : Prop := ∃ (kc : Nat) (la : Option Nat) (cu : Int32) (len : Nat) (cs : Nat → Int32) (sz : Nat) (ss ts ps ks ds : Nat → Int32) (kf : Nat → Option Nat) (th : Int32) (my : Nat) (pu mi ms lam : Int32) (sh : Nat) (mf : Int32) (tx rd pl kd sn kn lt rw rk : Nat → Int32) (zs : Nat → Nat) (tb mn it : Nat → Int32) (f : Nat → Int64),
  va_P D vwCl (WS d cA cP cL kc la cu len cs sz ss ts ps ks ds kf th len cu my pu mi ms lam kc sh mf tx rd pl kd sn kn lt rw rk zs tb mn it f) H ∧ va_D (gA s) (WS d cA cP cL kc la cu len cs sz ss ts ps ks ds kf th len cu my pu mi ms lam kc sh mf tx rd pl kd sn kn lt rw rk zs tb mn it f) ∧ va_S (gA s) s.heap H locs ∧ base ≤ H.size ∧ NUM kc cu len cs tx tb ∧ KEPT D cA base H kc kf rw rk zs ∧ LAST D cA base H la lam sh sn kn lt
/-- what stands over the law's whole body -/
def LCX (p : Program) (s : State) (m : MethodId) (c : Code) (b L : Nat) (xs : Nat → Int32) (dC : Nat → ClassId) (dI : Nat → Nat → Nat) (cA cP cL : ClassId) : Prop := p.tables.exec = Jvm.exec ∧ c.code = cL_law ∧ c.maxLocals = 7 ∧ s.vm.findClass RL = some m.cls ∧ (∀ w ∈ lw_tbl, w.before #[Value.ref b] s = true) ∧ (∀ w ∈ wsL_law, w.before #[Value.ref b] s = true) ∧ va_X b L xs s s.heap ∧ b < s.heap.size ∧ EV (gA s) s s.heap ∧ THc (gA s) s s.heap ∧ va_K (dC, dI) vwCl [(cA, .int), (cP, .object "PictureRows$Picture"), (cL, .long)] s
theorem lcmp_self (x : Int64) : lg_cmp x x = 0 := by simp [lg_cmp]
theorem new_hib {wc w1 wp : va_W} {n base Hs : Nat} (hD : va_D (va_A wc Hs) w1) (hA : (w1.take n).map (·.1) = wc.map (·.1)) (hp : w1.drop n = wp) (hb : base ≤ Hs) : hib base wp := by
  intro k q hq
  have h1 : w1[n + k]? = some q := by rw [← hp, List.getElem?_drop] at hq; exact hq
  rcases hD.2 _ q h1 with ⟨j, e, hj⟩ | h
  · exfalso
    have h2 : (wc.map (·.1))[j]? = some q.1 := by rw [List.getElem?_map, hj]; rfl
    rw [← hA, List.getElem?_map] at h2
    cases h3 : (w1.take n)[j]? with
    | none => rw [h3] at h2; cases h2
    | some z =>
      rw [h3] at h2
      have hz : z.1 = q.1 := Option.some.inj h2
      have hjn : j < n := by
        have := (List.getElem?_eq_some_iff.mp h3).1
        rw [List.length_take] at this
        omega
      have h4 : w1[j]? = some z := by rw [List.getElem?_take, if_pos hjn] at h3; exact h3
      have := hD.1 j (n + k) z q h4 h1 hz
      omega
  · omega
theorem pic_of {D : va_G} {cA : ClassId} {base : Nat} {H : Heap} {v0 v1 v2 v3 v4 v5 v6 : Nat} {F9 : Int32 × (Nat → Int32) × (Nat → Int32) × (Nat → Int32) × (Nat → Int32) × (Nat → Int32) × Nat} {Q : List KRun} {cu : Int32} (hG : GQ Q) (hsz : F9.2.2.2.2.2.2 = Q.length) (hC : CQ Q F9.2.1 F9.2.2.1 F9.2.2.2.1 F9.2.2.2.2.1 F9.2.2.2.2.2.1)
    (hP : va_P D vwCl (WP cA F9.2.2.2.2.2.2 v0 v1 v2 v3 v4 v5 v6 cu (m_X2_allSignsCounted F9.2.1 F9.2.2.1 F9.2.2.2.2.2.2) (m_X2_categoryOf F9.2.1 F9.2.2.2.2.2.2 (m_X2_kindsPresent F9.2.2.2.2.1 F9.2.2.2.2.2.2)) (m_X2_digitsIn F9.2.2.2.2.2.1 F9.2.2.2.2.2.2 0 (m_X2_pointRun F9.2.2.2.2.1 F9.2.2.2.2.2.2)) (m_X2_digitsIn F9.2.2.2.2.2.1 F9.2.2.2.2.2.2 (m_X2_pointRun F9.2.2.2.2.1 F9.2.2.2.2.2.2) F9.2.2.2.2.2.2) (m_X1_init_j131_s0 F9.2.1 F9.2.2.1 F9.2.2.2.2.1 F9.2.2.2.2.2.1 F9.2.2.2.2.2.2) (cpo F9.2.1 F9.2.2.2.2.2.2) (cpo F9.2.2.1 F9.2.2.2.2.2.2) (cpo F9.2.2.2.2.1 F9.2.2.2.2.2.2) (m_X1_init F9.2.1 F9.2.2.1 F9.2.2.2.2.1 F9.2.2.2.2.2.1 F9.2.2.2.2.2.2).1 (m_X1_init F9.2.1 F9.2.2.1 F9.2.2.2.2.1 F9.2.2.2.2.2.1 F9.2.2.2.2.2.2).2.1 (m_X1_init F9.2.1 F9.2.2.1 F9.2.2.2.2.1 F9.2.2.2.2.2.1 F9.2.2.2.2.2.2).2.2) H)
    (hh : hib base (WP cA F9.2.2.2.2.2.2 v0 v1 v2 v3 v4 v5 v6 cu (m_X2_allSignsCounted F9.2.1 F9.2.2.1 F9.2.2.2.2.2.2) (m_X2_categoryOf F9.2.1 F9.2.2.2.2.2.2 (m_X2_kindsPresent F9.2.2.2.2.1 F9.2.2.2.2.2.2)) (m_X2_digitsIn F9.2.2.2.2.2.1 F9.2.2.2.2.2.2 0 (m_X2_pointRun F9.2.2.2.2.1 F9.2.2.2.2.2.2)) (m_X2_digitsIn F9.2.2.2.2.2.1 F9.2.2.2.2.2.2 (m_X2_pointRun F9.2.2.2.2.1 F9.2.2.2.2.2.2) F9.2.2.2.2.2.2) (m_X1_init_j131_s0 F9.2.1 F9.2.2.1 F9.2.2.2.2.1 F9.2.2.2.2.2.1 F9.2.2.2.2.2.2) (cpo F9.2.1 F9.2.2.2.2.2.2) (cpo F9.2.2.1 F9.2.2.2.2.2.2) (cpo F9.2.2.2.2.1 F9.2.2.2.2.2.2) (m_X1_init F9.2.1 F9.2.2.1 F9.2.2.2.2.1 F9.2.2.2.2.2.1 F9.2.2.2.2.2.2).1 (m_X1_init F9.2.1 F9.2.2.1 F9.2.2.2.2.1 F9.2.2.2.2.2.1 F9.2.2.2.2.2.2).2.1 (m_X1_init F9.2.1 F9.2.2.1 F9.2.2.2.2.1 F9.2.2.2.2.2.1 F9.2.2.2.2.2.2).2.2)) : PIC D cA base H v0 Q cu := by
  obtain ⟨r, a, b, c, k, dd, z⟩ := F9
  dsimp only at hsz hC hP hh
  subst hsz
  refine ⟨hG, v1, v2, v3, v4, v5, v6, _, _, _, _, _, _, _, _, _, _, _, hP, hh, ?_, eff_class hG hC, a, b, c, k, dd, hC, rfl, rfl, rfl, rfl⟩
  intro t q hq
  have ht := (List.getElem?_eq_some_iff.mp hq).1
  obtain ⟨g1, g2, -, g4, -⟩ := hC t q hq
  rw [cpo_lt ht, cpo_lt ht, cpo_lt ht]
  exact ⟨g1, g2, g4⟩
theorem kept_new {D : va_G} {cA : ClassId} {base : Nat} {H : Heap} {kc : Nat} {kf : Nat → Option Nat} {rw rk : Nat → Int32} {zs : Nat → Nat} {v0 : Nat} {Q : List KRun} {cu : Int32} {n : Nat} {G : (Nat → Int32) × (Nat → Int32) × (Nat → Nat) × Nat} (hkc : kc ≤ 40) (hKE : KEPT D cA base H kc kf rw rk zs) (hpic : PIC D cA base H v0 Q cu)
    (hfull : 40 ≤ kc → G = (rw, rk, zs, kc)) (hkept : kc < 40 → G.2.2 = (va_up zs kc n, kc + 1) ∧ RS Q G.1 G.2.1 (10200 * kc) n ∧ ∀ j, j < 10200 * kc → G.1 j = rw j ∧ G.2.1 j = rk j) :
    (m_X4_keep kf kc v0).2 = G.2.2.2 ∧ G.2.2.2 ≤ 40 ∧ KEPT D cA base H (m_X4_keep kf kc v0).2 (m_X4_keep kf kc v0).1 G.1 G.2.1 G.2.2.1 := by
  unfold m_X4_keep
  by_cases h : 40 ≤ kc
  · rw [if_pos h, hfull h]
    exact ⟨rfl, hkc, hKE⟩
  · obtain ⟨h1, h2, h3⟩ := hkept (by omega)
    obtain ⟨G1, G2, G3, G4⟩ := G
    dsimp only at h1 h2 h3 ⊢
    simp only [Prod.mk.injEq] at h1
    obtain ⟨rfl, rfl⟩ := h1
    rw [if_neg h]
    refine ⟨rfl, by omega, ?_⟩
    intro i hi
    show ∃ (r : Nat) (Q : List KRun) (pcu : Int32), va_up kf kc (some v0) i = some r ∧ _
    by_cases e : i = kc
    · subst e
      refine ⟨v0, Q, cu, ?_, hpic, ?_⟩
      · simp [va_up]
      · have : va_up zs i n i = n := by simp [va_up]
        rw [this]; exact h2
    · have hi' : i < kc := by have : i < kc + 1 := hi; omega
      obtain ⟨r, Q1, pcu, g1, g2, g3⟩ := hKE i hi'
      refine ⟨r, Q1, pcu, ?_, g2, ?_⟩
      · simp [va_up, e]; exact g1
      · have ez : va_up zs kc n i = zs i := by simp [va_up, e]
        rw [ez]
        have hl : (exq Q1).length ≤ 10200 := Nat.le_trans (Nat.le_trans (exq_let _) g2.1.size) (by omega)
        refine ⟨g3.1, fun j q hq => ?_⟩
        have hj : j < (exq Q1).length := (List.getElem?_eq_some_iff.mp hq).1
        obtain ⟨a1, a2⟩ := g3.2 j q hq
        have hlt : 10200 * i + j < 10200 * kc := by
          have : 10200 * (i + 1) ≤ 10200 * kc := Nat.mul_le_mul_left _ (by omega)
          omega
        obtain ⟨b1, b2⟩ := h3 _ hlt
        rw [b1, b2]; exact ⟨a1, a2⟩
theorem lfL_in : Cond.methodLink RL 42 yL_follows ∈ wsL_law := (gL_law_L_follows _ (by simp [va_wsS])).1
theorem lfS_in : Cond.static yL_follows ∈ wsL_law := (gL_law_L_follows _ (by simp [va_wsS])).1
theorem lfC_in : Cond.codeWith yL_follows cL_follows 5 (some .int) [(0, 17, 20, 13)] ∈ wsL_law := (ggL_law_L_follows _ List.mem_cons_self).1
theorem lfI_in : Cond.initialized RL ∈ wsL_law := (gL_law_L_follows _ (by simp [va_wsS]; exact Or.inl rfl)).1
theorem wsLX_in : ∀ w ∈ (Cond.classLink RL 13 RJx00060 :: thK), w ∈ lw_tbl := by decide +kernel
theorem wsLF_good {s : State} {args : Array Value} (htb0 : ∀ w ∈ lw_tbl, w.before args s = true) (hts : ∀ w ∈ wsL_law, w.before args s = true) : ∀ w ∈ wsLF, ∀ (a' : Array Value) (U : State), s.WarmedH U.vm → w.before a' U = true := by
  intro w hw a' U hW
  rcases List.mem_append.mp hw with h | h
  · exact pay_in hts ggL_law_L_follows w h a' U hW
  · refine word_at hW (Or.inl ?_) (htb0 w (wsLX_in w h))
    rcases List.mem_cons.mp h with rfl | h
    · decide
    · exact (List.mem_filter.mp h).2
section SW
variable {p : Program} {l : Launch} {e : Env} {R : Room} {s : State} {m : MethodId} {args : Array Value} {below : List Frame} {meth : Method} {c : Code} {H : Heap} {locs : List Loc} {cells slots : Nat}
theorem callSW {T : State} (X : Stand p l e R s m args below meth c T locs cells slots) (hexec : p.tables.exec = Jvm.exec) {own : String} {index : Nat} {y : MethodName} {bytes : ByteArray} {maxL : Nat} {ret : Option FieldType} {hh : List (Nat × Nat × Nat × Nat)}
    (hown : s.vm.findClass own = some m.cls) (hlink : (Cond.methodLink own index y).before args s = true) (hstat : (Cond.static y).before args s = true) (hinit : (Cond.initialized y.cls).before args s = true)
    (hcode : (Cond.codeWith y bytes maxL ret hh).before args s = true) (hy : y.cls ≠ "java/lang/invoke/MethodHandle" ∧ y.cls ≠ "java/lang/invoke/VarHandle")
    {W : Nat} {Pre : Pt → Array Value → Prop} {Post : Pt → Array Value → Option Value → Pt → Prop} (hK : Back l R p e below s args y 3 W Pre Post)
    {g : JFrame} (hg : g.method = m) (hsize : g.locals.size = c.maxLocals) {argsL rest : List Value} (hlen : ∀ sig, parseMethodDescriptor y.desc = some sig → argsL.length = sig.parameters.length)
    (hstack : g.stack = argsL.reverse ++ rest) (hW : 2 * g.monitorRoom + (rest.map fun v => v.category).sum ≤ W) (hdg : decode c.code g.pc = .ok (.invokestatic index, 3))
    (hpre : ∀ vm₁, s.WarmedH vm₁ → Pre ⟨T.setVm vm₁, locs, cells, slots⟩ argsL.toArray) :
    ∃ (v : Option Value) (vm₁ : Vm) (B : Pt), s.WarmedH vm₁ ∧ Stand p l e R s m args below meth c B.U B.locs B.cells B.slots ∧ Post ⟨T.setVm vm₁, locs, cells, slots⟩ argsL.toArray v B ∧
      ∀ target, Steps p.tables e below (B.U.setTop { g with pc := g.pc + 3, stack := v.toList ++ rest }) target → Steps p.tables e below (T.setTop g) target := by
  obtain ⟨mk, methM, cM, hnamed, hmethM, -, -, -, -, -, -, hsigM⟩ := Cond.codeWith_spec hcode
  have hstatic : methM.isStatic = true := Cond.static_spec hnamed hmethM hstat
  obtain ⟨kP, hkP, -⟩ := className_of_methodNamed hnamed
  have hinitP : kP.init = .initialized := Cond.initialized_spec (findClass_of_methodNamed hnamed) hkP hinit
  obtain ⟨vm₁, X₁, hstep₁⟩ := X.invokestatic hexec hown hlink hnamed hmethM hstatic hkP hinitP hy (g := g) hg (argsL := argsL) (rest := rest) (hlen _ hsigM) hstack hdg
  obtain ⟨v, B, X', hpost, hsteps⟩ := hK m meth c ⟨T.setVm vm₁, locs, cells, slots⟩ { g with stack := rest } (.invokestatic index) mk argsL.toArray X₁ hg hsize hdg hW (X₁.named hnamed) (hpre vm₁ X₁.warmed)
  exact ⟨v, vm₁, B, X₁.warmed, X', hpost, fun target h => hstep₁ _ fun acts => by rw [doInvoke_state]; exact hsteps.trans h⟩
theorem va_runSW {y : MethodName} {bytes cc : ByteArray} {maxL nL mc ms n index : Nat} {ret : Option FieldType} {hh : List (Nat × Nat × Nat × Nat)} {ws : List Cond} {rm : Room} {Pc : Array Value → State → Prop} {Qc : Array Value → State → Outcome → State → Prop} {free : Addr → Prop} {Ts : List Cond} {own : String} {As rest : List Value} {g : JFrame}
    (S : CallFix p m c cc nL s args Ts own) (hM : Met l y ws rm Pc Qc mc ms free) (hrc : rm.cells = mc) (hrs : rm.slots = ms) (hfr : rm.frames + 1 ≤ R.frames) (hlo : 8 + (maxL + 11) + rm.locals ≤ R.locals) (hws : ∀ w ∈ ws, ∀ (a' : Array Value) (U : State), s.WarmedH U.vm → w.before a' U = true) (hcw : Cond.codeWith y bytes maxL ret hh ∈ ws)
    (hcode : (Cond.codeWith y bytes maxL ret hh).before args s = true) (hl : (Cond.methodLink own index y).before args s = true) (hstt : (Cond.static y).before args s = true) (hini : (Cond.initialized y.cls).before args s = true) (hy : y.cls ≠ "java/lang/invoke/MethodHandle" ∧ y.cls ≠ "java/lang/invoke/VarHandle") (hlen : (parseMethodDescriptor y.desc).map (fun d => d.parameters.length) = some n) (hp : PreS s H Pc As)
    (hg : g.method = m) (hn : As.length = n) (hsize : g.locals.size = nL) (hstack : g.stack = As.reverse ++ rest) (hW : 2 * g.monitorRoom + (rest.map fun v => v.category).sum ≤ 8) (hdg : decode cc g.pc = .ok (.invokestatic index, 3)) (hf : cells + mc ≤ R.cells ∧ slots + ms ≤ R.slots) :
    va_Run p l e R s m args below meth c H locs cells slots mc ms g rest (Qc As.toArray) (free) := by
  have hK : Back l R p e below s args y 3 8 (PreOf R mc ms Pc) (PostOf Qc mc ms free) := va_backW (hh := hh) (bytes := bytes) (maxL := maxL) (ret := ret) hM hp.1 hrc hrs hfr hlo hws hcw (fun a' U hW => word_at hW (Or.inl (by first | rfl | simp [Cond.onTables, Cond.keeps, Cond.steady])) hini)
  obtain ⟨hx, hb, hml, ho, -⟩ := S
  intro T hT X
  obtain ⟨v, vm₁, ⟨U', l2, c2, s2⟩, hW₁, X', ⟨g', mk, t, L, e1, e2, hq, h1, hL, h2, h3⟩, st⟩ := callSW X hx (hh := hh) (bytes := bytes) (maxL := maxL) (ret := ret) ho hl hstt hini hcode hy hK hg (hsize.trans hml.symm) (argsL := As) (rest := rest) (fun sig h => by rw [h] at hlen; exact hn.trans (Option.some.inj hlen).symm) hstack hW (by rw [hb]; exact hdg)
    (fun vm₁ hW₁ => ⟨hf.1, hf.2, hp.2 (T.setVm vm₁) hT hW₁⟩)
  dsimp only [Pt.U, Pt.locs, Pt.cells, Pt.slots] at X' e1 e2 h1 h2 h3 st
  subst h1; subst h2; subst h3
  exact ⟨v, (T.setVm vm₁).calling g' mk As.toArray, t, U', L, hT, X', hL, e1, e2, hq, st⟩
end SW
