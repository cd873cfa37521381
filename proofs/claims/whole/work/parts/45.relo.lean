theorem cntP_ext {P : Nat → Bool} {k : Nat} : ∀ {n : Nat}, (∀ j, k ≤ j → j < k + n → P j = false) → cntP P (k + n) = cntP P k
  | 0, _ => rfl
  | n + 1, h => by
    show cntP P (k + n + 1) = _
    rw [cnt_f (h (k + n) (by omega) (by omega))]
    exact cntP_ext (fun j a b => h j a (by omega))
/-- permits come -/
theorem relQ_come {k n wk pj pj2 : Nat} {P0 P1 P2 P3 P4 P5 ST HO YO UI PO WE g0 g1 g2 g3 g4 g5 m0 m1 m2 m3 m4 : Nat → Int32} {us ca : Int32} {E2 : Nat → Int32} (h : relQ k wk pj P0 P1 P2 P3 P4 P5 ST HO YO UI PO WE us ca E2) (hkn : k + n ≤ 4000) (hp : pj ≤ pj2)
    (h1 : ∀ j, j < k → g0 j = P0 j ∧ g1 j = P1 j ∧ g2 j = P2 j ∧ g3 j = P3 j ∧ g4 j = P4 j ∧ g5 j = P5 j) (h2 : ∀ j, j < k → m0 j = ST j ∧ m1 j = HO j ∧ m2 j = YO j ∧ m3 j = UI j ∧ m4 j = PO j)
    (h3 : ∀ j, k ≤ j → j < k + n → (g0 j = 0 ∧ m0 j = 0) ∧ g1 j = m1 j ∧ g2 j = m2 j ∧ g3 j = m3 j ∧ g4 j = m4 j ∧ g5 j = 0)
    (h4 : ∀ j, k ≤ j → j < k + n → (m1 j = -1 ∨ ∃ w, w < wk ∧ m1 j = nI w) ∧ (m4 j = -1 ∨ ((∃ p, p < pj2 ∧ m4 j = nI p) ∧ ∃ w, w < wk ∧ m1 j = nI w))) :
    relQ (k + n) wk pj2 g0 g1 g2 g3 g4 g5 m0 m1 m2 m3 m4 WE us ca E2 := by
  obtain ⟨a1, a2, a3, a4, a5, a6, a7⟩ := h
  have cc : ∀ v x : Int32, ¬ v = 0 → cntP (cOf m0 m1 v x) (k + n) = cntP (cOf ST HO v x) k := fun v x hv => by
    rw [cntP_ext (P := cOf m0 m1 v x) (fun j a b => decide_eq_false (fun z => hv (z.1.symm.trans (h3 j a b).1.2)))]
    refine cntP_congr (fun j hj => ?_)
    unfold cOf
    rw [(h2 j hj).1, (h2 j hj).2.1]
  refine ⟨fun j hj => ?_, fun j a b => a2 j (by omega) b, fun j hj => ?_, fun j hj => ?_, ?_, ?_, fun w hw => ?_⟩
  · rcases Nat.lt_or_ge j k with q | q
    · obtain ⟨b0, b1, b2, b3, b4, b5⟩ := a1 j q
      obtain ⟨c0, c1, c2, c3, c4, c5⟩ := h1 j q
      obtain ⟨d0, d1, d2, d3, d4⟩ := h2 j q
      rw [c0, c1, c2, c3, c4, c5, d0, d1, d2, d3, d4]
      exact ⟨b0, b1, b2, b3, b4, b5⟩
    · obtain ⟨⟨c0, d0⟩, c1, c2, c3, c4, c5⟩ := h3 j q hj
      exact ⟨Or.inl ⟨d0, c0⟩, c1, c2, c3, c4, c5.trans (a2 j q (by omega)).symm⟩
  · rcases Nat.lt_or_ge j k with q | q
    · rw [(h2 j q).2.1]; exact a3 j q
    · exact (h4 j q hj).1
  · rcases Nat.lt_or_ge j k with q | q
    · rw [(h2 j q).2.1, (h2 j q).2.2.2.2]
      exact (a4 j q).imp id (fun z => ⟨z.1.imp (fun p y => ⟨by omega, y.2⟩), z.2⟩)
    · exact (h4 j q hj).2
  · rw [cc 1 _ (by decide)]; exact a5
  · rw [cc 2 _ (by decide), cc 3 _ (by decide)]; exact a6
  · rw [cc 1 _ (by decide)]; exact a7 w hw
theorem rel_offset {k wk pj now N N2 k2 pj2 l2 pk2 q0 q1 q2 q3 q4 q5 pa0 pa1 pa2 pa3 pa4 pa5 Ng : Nat} {P0 P1 P2 P3 P4 P5 P6 P7 ST HO YO UI PO WE g0 g1 g2 g3 g4 g5 g6 m0 m1 m2 m3 m4 : Nat → Int32} {us ca : Int32} {E2 : Nat → Int32} {a1 a2 r1 r2 : Int32} (h : relQ k wk pj P0 P1 P2 P3 P4 P5 ST HO YO UI PO WE us ca E2) (hwk : wk ≤ 10) (hkN : k ≤ N) (hN : N ≤ 4000) (hok : pOk P0 P1 P6 P7 k) (hpj : pj ≤ 20)
    (hNg : ∀ n, 1 ≤ n → n ≤ 100 → a2 = nI n → ofC wk pj now k a1 a2 → Ng = mrR N (k + n)) (hNg2 : ¬ ofC wk pj now k a1 a2 → Ng = N)
    (h1 : (∃ w n, (w < wk ∧ a1 = nI w ∧ 1 ≤ n ∧ n ≤ 100 ∧ a2 = nI n ∧ ofC wk pj now k a1 a2) ∧ r1 = nI pj ∧ pj2 = pj + 1 ∧ N2 = mrR N (k + n) ∧ k2 = k + n ∧ (∀ j, j < k → g0 j = P0 j ∧ g1 j = P1 j ∧ g2 j = P2 j ∧ g3 j = P3 j ∧ g4 j = P4 j ∧ g5 j = P5 j) ∧ (∀ j, k ≤ j → j < k + n → g0 j = 0 ∧ g1 j = nI w ∧ g2 j = nI now ∧ g3 j = -1 ∧ g4 j = nI pj ∧ g5 j = 0) ∧ pOk g0 g1 g6 P7 (k + n)) ∨ (¬ ofC wk pj now k a1 a2 ∧ r1 = -1 ∧ pj2 = pj ∧ N2 = N ∧ k2 = k ∧ (q0 = pa0 ∧ q1 = pa1 ∧ q2 = pa2 ∧ q3 = pa3 ∧ q4 = pa4 ∧ q5 = pa5) ∧ g0 = P0 ∧ g1 = P1 ∧ g2 = P2 ∧ g3 = P3 ∧ g4 = P4 ∧ g5 = P5 ∧ g6 = P6))
    (h2 : (∃ w n, (w < wk ∧ a1 = nI w ∧ 1 ≤ n ∧ n ≤ 100 ∧ a2 = nI n ∧ ofC wk pj now k a1 a2) ∧ r2 = nI pj ∧ pk2 = pj + 1 ∧ l2 = k + n ∧ m0 = rng ST k n 0 ∧ m1 = rng HO k n (nI w) ∧ m2 = rng YO k n (nI now) ∧ m3 = rng UI k n (-1) ∧ m4 = rng PO k n (nI pj)) ∨ (¬ ofC wk pj now k a1 a2 ∧ r2 = -1 ∧ pk2 = pj ∧ l2 = k ∧ m0 = ST ∧ m1 = HO ∧ m2 = YO ∧ m3 = UI ∧ m4 = PO)) :
    r1 = r2 ∧ pk2 = pj2 ∧ l2 = k2 ∧ pj2 ≤ 20 ∧ N2 = Ng ∧ k2 ≤ N2 ∧ N2 ≤ 4000 ∧ phi N ≤ phi N2 ∧ pOk g0 g1 g6 P7 k2 ∧ relQ k2 wk pj2 g0 g1 g2 g3 g4 g5 m0 m1 m2 m3 m4 WE us ca E2 := by
  rcases h1 with ⟨w, n, q, e1, e2, e3, e4, e5, e6, e7⟩ | ⟨q, e1, e2, e3, e4, e5, c0, c1, c2, c3, c4, c5, c6⟩ <;> rcases h2 with ⟨w2, n2, qq, f1, f2, f4, d0, d1, d2, d3, d4⟩ | ⟨qq, f1, f2, f4, d0, d1, d2, d3, d4⟩
  · have ew : w = w2 := (nI_eq (by omega) (by omega)).mp (q.2.1.symm.trans qq.2.1)
    have en : n = n2 := (nI_eq (by omega) (by omega)).mp (q.2.2.2.2.1.symm.trans qq.2.2.2.2.1)
    subst ew; subst en
    obtain ⟨-, ⟨n0, n01, n02, n03, n04⟩, hpl, hnl⟩ := q.2.2.2.2.2
    have en0 : n = n0 := (nI_eq (by omega) (by omega)).mp (q.2.2.2.2.1.symm.trans n03)
    subst en0
    obtain ⟨z1, z2, z3, z4⟩ := mrR_le (N := N) (m := k + n) hN n04
    have ng := hNg n q.2.2.1 q.2.2.2.1 q.2.2.2.2.1 q.2.2.2.2.2
    refine ⟨by rw [e1, f1], by rw [e2, f2], by rw [e4, f4], by omega, by rw [e3, ng], by rw [e3, e4]; exact z2, by rw [e3]; exact z3, by rw [e3]; exact z4, by rw [e4]; exact e7, ?_⟩
    rw [e4, e2]
    refine relQ_come h n04 (by omega) e5 (fun j hj => ?_) (fun j a b => ?_) (fun j a b => ?_)
    · rw [d0, d1, d2, d3, d4, rng_lo hj, rng_lo hj, rng_lo hj, rng_lo hj, rng_lo hj]; exact ⟨rfl, rfl, rfl, rfl, rfl⟩
    · obtain ⟨y0, y1, y2, y3, y4, y5⟩ := e6 j a b
      rw [d0, d1, d2, d3, d4, rng_in a b, rng_in a b, rng_in a b, rng_in a b, rng_in a b]
      exact ⟨⟨y0, rfl⟩, y1, y2, y3, y4, y5⟩
    · rw [d1, d4, rng_in a b, rng_in a b]
      exact ⟨Or.inr ⟨w, q.1, rfl⟩, Or.inr ⟨⟨pj, by omega, rfl⟩, w, q.1, rfl⟩⟩
  · exact absurd q.2.2.2.2.2 qq
  · exact absurd qq.2.2.2.2.2 q
  · have := hNg2 q
    refine ⟨by rw [e1, f1], by rw [e2, f2], by rw [e4, f4], by omega, by omega, by omega, by omega, by rw [e3]; exact Nat.le_refl _, by rw [c0, c1, c6, e4]; exact hok, ?_⟩
    rw [e4, e2, c0, c1, c2, c3, c4, c5, d0, d1, d2, d3, d4]; exact h
