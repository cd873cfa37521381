theorem relQ_hW {k wk pj wi : Nat} {P0 P1 P2 P3 P4 P5 ST HO YO UI PO WE : Nat → Int32} {us ca : Int32} {E2 : Nat → Int32} (h : relQ k wk pj P0 P1 P2 P3 P4 P5 ST HO YO UI PO WE us ca E2) : ∀ j, j < k → hW P0 P1 wi j = hW ST HO wi j := hW_rel (fun j hj => stR_0 (h.1 j hj).1) (fun j hj => (h.1 j hj).2.1)
theorem relQ_cnt {k wk pj wi : Nat} {P0 P1 P2 P3 P4 P5 ST HO YO UI PO WE : Nat → Int32} {us ca : Int32} {E2 : Nat → Int32} (h : relQ k wk pj P0 P1 P2 P3 P4 P5 ST HO YO UI PO WE us ca E2) : cntP (hW P0 P1 wi) k = cntP (hW ST HO wi) k := cntP_congr (relQ_hW h)
/-- permits that are HELD go over to works -/
theorem relQ_move {k wk pj : Nat} {P0 P1 P2 P3 P4 P5 ST HO YO UI PO WE P1' P5' HO' WE' : Nat → Int32} {us ca : Int32} {E2 : Nat → Int32} (h : relQ k wk pj P0 P1 P2 P3 P4 P5 ST HO YO UI PO WE us ca E2) (h1 : ∀ j, j < k → P1' j = HO' j ∧ P5' j = WE' j) (h2 : ∀ j, k ≤ j → WE' j = WE j) (h3 : ∀ j, j < k → HO' j = HO j ∨ ((∃ w, w < wk ∧ HO' j = nI w) ∧ ST j = 0)) : relQ k wk pj P0 P1' P2 P3 P4 P5' ST HO' YO UI PO WE' us ca E2 := by
  obtain ⟨a1, a2, a3, a4, a5, a6, a7⟩ := h
  have cc : ∀ v x : Int32, ¬ v = 0 → cntP (cOf ST HO' v x) k = cntP (cOf ST HO v x) k := fun v x hv => cntP_congr (fun j hj => by
    rcases h3 j hj with z | ⟨_, z⟩
    · unfold cOf; rw [z]
    · unfold cOf; rw [decide_eq_false (fun q => hv (q.1.symm.trans z)), decide_eq_false (fun q => hv (q.1.symm.trans z))])
  refine ⟨fun j hj => ?_, fun j a b => (h2 j a).trans (a2 j a b), fun j hj => ?_, fun j hj => ?_, ?_, ?_, fun w hw => ?_⟩
  · obtain ⟨b0, b1, b2, b3, b4, b5⟩ := a1 j hj
    exact ⟨b0, (h1 j hj).1, b2, b3, b4, (h1 j hj).2⟩
  · rcases h3 j hj with z | ⟨z, _⟩
    · rw [z]; exact a3 j hj
    · exact Or.inr z
  · rcases a4 j hj with z | ⟨z1, z2⟩
    · exact Or.inl z
    · refine Or.inr ⟨z1, ?_⟩
      rcases h3 j hj with y | ⟨y, _⟩
      · rw [y]; exact z2
      · exact y
  · rw [cc 1 _ (by decide)]; exact a5
  · rw [cc 2 _ (by decide), cc 3 _ (by decide)]; exact a6
  · rw [cc 1 _ (by decide)]; exact a7 w hw
theorem relQ_pass {k wk pj wf j n : Nat} {P0 P1 P2 P3 P4 P5 ST HO YO UI PO WE : Nat → Int32} {us ca : Int32} {E2 : Nat → Int32} (h : relQ k wk pj P0 P1 P2 P3 P4 P5 ST HO YO UI PO WE us ca E2) (hwk : wk ≤ 10) (hj : j < wk) (hf : wf < 11) (hne : wf ≠ j + 1) (hn : n ≤ cntP (hW ST HO wf) k) :
    relQ k wk pj P0 (psI P0 k wf (nI j) n P1 P5).1 P2 P3 P4 (psI P0 k wf (nI j) n P1 P5).2 ST (psI ST k wf (nI j) n HO WE).1 YO UI PO (psI ST k wf (nI j) n HO WE).2 us ca E2 := by
  have hst := psI_st (st := ST) (k := k) (mv := WE) (nI_1 j) hne hf (by omega) (n := n) (ho := HO) hn
  refine relQ_move h (fun i hi => ?_) (fun i hi => (hst i).2 hi) (fun i hi => (hst i).1.imp id (fun z => ⟨⟨j, hj, z.1⟩, z.2.1⟩))
  exact psI_rel (fun i hi => stR_0 (h.1 i hi).1) (fun i hi => (h.1 i hi).2.1) (fun i hi => (h.1 i hi).2.2.2.2.2) i hi
theorem tdC_rel {k wk pj i j n : Nat} {P0 P1 P2 P3 P4 P5 ST HO YO UI PO WE : Nat → Int32} {us ca : Int32} {E2 : Nat → Int32} {a1 a2 a3 a4 : Int32} (h : relQ k wk pj P0 P1 P2 P3 P4 P5 ST HO YO UI PO WE us ca E2) : tdC wk k P0 P1 a1 a2 a3 a4 i j n ↔ tdC wk k ST HO a1 a2 a3 a4 i j n := by
  unfold tdC; rw [relQ_cnt h]
theorem rel_trade {k wk pj : Nat} {P0 P1 P2 P3 P4 P5 P6 P7 ST HO YO UI PO WE CO g1 g5 g6 g7 h0 m1 m5 n0 : Nat → Int32} {us ca : Int32} {E2 : Nat → Int32} {a1 a2 a3 a4 r1 r2 : Int32} (h : relQ k wk pj P0 P1 P2 P3 P4 P5 ST HO YO UI PO WE us ca E2) (hwk : wk ≤ 10) (hk : k ≤ 4000) (hok : pOk P0 P1 P6 P7 k)
    (h1 : (∃ i j n, tdC wk k P0 P1 a1 a2 a3 a4 i j n ∧ r1 = 1 ∧ pOk P0 g1 g6 g7 k ∧ g1 = (psI P0 k (i + 1) (nI j) n P1 P5).1 ∧ g5 = (psI P0 k (i + 1) (nI j) n P1 P5).2 ∧ h0 = upd (upd CO i (CO i + a4)) j ((upd CO i (CO i + a4)) j + -a4)) ∨ ((∀ i j n, ¬ tdC wk k P0 P1 a1 a2 a3 a4 i j n) ∧ r1 = 0 ∧ g1 = P1 ∧ g5 = P5 ∧ g6 = P6 ∧ g7 = P7 ∧ h0 = CO))
    (h2 : (∃ i j n, tdC wk k ST HO a1 a2 a3 a4 i j n ∧ r2 = 1 ∧ m1 = (psI ST k (i + 1) (nI j) n HO WE).1 ∧ m5 = (psI ST k (i + 1) (nI j) n HO WE).2 ∧ n0 = upd (upd CO i (CO i + a4)) j ((upd CO i (CO i + a4)) j - a4)) ∨ ((∀ i j n, ¬ tdC wk k ST HO a1 a2 a3 a4 i j n) ∧ r2 = 0 ∧ m1 = HO ∧ m5 = WE ∧ n0 = CO)) :
    r1 = r2 ∧ h0 = n0 ∧ pOk P0 g1 g6 g7 k ∧ relQ k wk pj P0 g1 P2 P3 P4 g5 ST m1 YO UI PO m5 us ca E2 := by
  rcases h1 with ⟨i, j, n, q, e1, e2, e3, e4, e5⟩ | ⟨q, e1, e3, e4, e6, e7, e5⟩ <;> rcases h2 with ⟨i2, j2, n2, q2, f1, f3, f4, f5⟩ | ⟨q2, f1, f3, f4, f5⟩
  · have qq := (tdC_rel h).mp q
    have c1 := cntP_le (hW ST HO (i + 1)) k
    have c2 := cntP_le (hW ST HO (i2 + 1)) k
    obtain ⟨z1, z2, z3, z4, z5, z6, z7, z8, z9, z10⟩ := qq
    obtain ⟨y1, y2, y3, y4, y5, y6, y7, y8, y9, y10⟩ := q2
    have w1 : i = i2 := (nI_eq (by omega) (by omega)).mp (z6.symm.trans y6)
    have w2 : j = j2 := (nI_eq (by omega) (by omega)).mp (z7.symm.trans y7)
    have w3 : n = n2 := (nI_eq (by omega) (by omega)).mp (z8.symm.trans y8)
    subst w1; subst w2; subst w3
    refine ⟨by rw [e1, f1], by rw [e5, f5, Int32.sub_eq_add_neg], e2, ?_⟩
    rw [e3, e4, f3, f4]
    exact relQ_pass h hwk z2 (by omega) (by omega) z5
  · exact absurd ((tdC_rel h).mp q) (q2 i j n)
  · exact absurd ((tdC_rel h).mpr q2) (q i2 j2 n2)
  · refine ⟨by rw [e1, f1], by rw [e5, f5], by rw [e3, e6, e7]; exact hok, ?_⟩
    rw [e3, e4, f3, f4]; exact h
theorem rel_cancel {k wk pj : Nat} {P0 P1 P2 P3 P4 P5 P6 P7 ST HO YO UI PO WE g0 g6 g7 m0 : Nat → Int32} {us ca ca2 : Int32} {E2 : Nat → Int32} {x n r1 r2 : Int32} (h : relQ k wk pj P0 P1 P2 P3 P4 P5 ST HO YO UI PO WE us ca E2) (hwk : wk ≤ 10) (hk : k ≤ 4000) (hok : pOk P0 P1 P6 P7 k)
    (h1 : (∃ j m, (j < wk ∧ x = nI j ∧ 1 ≤ m ∧ m ≤ cntP (hW P0 P1 (j + 1)) k ∧ n = nI m) ∧ r1 = 1 ∧ pOk g0 P1 g6 g7 k ∧ g0 = skI P1 k (j + 1) m P0 ∧ ca2 = ca + nI m) ∨ ((∀ j m, ¬ (j < wk ∧ x = nI j ∧ 1 ≤ m ∧ m ≤ cntP (hW P0 P1 (j + 1)) k ∧ n = nI m)) ∧ r1 = 0 ∧ g0 = P0 ∧ g6 = P6 ∧ g7 = P7 ∧ ca2 = ca))
    (h2 : (∃ j m, (j < wk ∧ x = nI j ∧ 1 ≤ m ∧ m ≤ cntP (hW ST HO (j + 1)) k ∧ n = nI m) ∧ r2 = 1 ∧ m0 = skI HO k (j + 1) m ST) ∨ ((∀ j m, ¬ (j < wk ∧ x = nI j ∧ 1 ≤ m ∧ m ≤ cntP (hW ST HO (j + 1)) k ∧ n = nI m)) ∧ r2 = 0 ∧ m0 = ST)) :
    r1 = r2 ∧ pOk g0 P1 g6 g7 k ∧ relQ k wk pj g0 P1 P2 P3 P4 P5 m0 HO YO UI PO WE us ca2 E2 := by
  have hc : ∀ wi, cntP (hW P0 P1 wi) k = cntP (hW ST HO wi) k := fun wi => relQ_cnt h
  rcases h1 with ⟨j, m, q, e1, e2, e3, e4⟩ | ⟨q, e1, e3, e6, e7, e4⟩ <;> rcases h2 with ⟨j2, m2, q2, f1, f3⟩ | ⟨q2, f1, f3⟩
  · have c1 := cntP_le (hW ST HO (j2 + 1)) k
    rw [hc] at q
    have c2 := cntP_le (hW ST HO (j + 1)) k
    have w1 : j = j2 := (nI_eq (by omega) (by omega)).mp (q.2.1.symm.trans q2.2.1)
    have w2 : m = m2 := (nI_eq (by omega) (by omega)).mp (q.2.2.2.2.symm.trans q2.2.2.2.2)
    subst w1; subst w2
    refine ⟨by rw [e1, f1], e2, ?_⟩
    obtain ⟨a1, a2, a3, a4, a5, a6, a7⟩ := h
    have hm := q.2.2.2.1
    refine ⟨fun i hi => ?_, a2, a3, a4, ?_, ?_, fun w hw => ?_⟩
    · obtain ⟨b0, b1, b2, b3, b4, b5⟩ := a1 i hi
      rw [e3, f3]
      exact ⟨skI_rel (fun i hi => (a1 i hi).2.1) (fun i hi => (a1 i hi).1) i hi, b1, b2, b3, b4, b5⟩
    · rw [f3, skI_cnt (by omega) (by decide) hm, if_neg (fun z => absurd z.1 (by decide))]; exact a5
    · rw [f3, skI_cnt (by omega) (by decide) hm, skI_cnt (by omega) (by decide) hm, if_pos ⟨rfl, Or.inl rfl⟩, if_neg (fun z => absurd z.1 (by decide)), e4, a6, Nat.add_zero, ← nI_add, Int32.add_assoc, Int32.add_comm (nI (cntP (cOf ST HO 3 UNT) k)), ← Int32.add_assoc]
    · rw [f3, skI_cnt (by omega) (by decide) hm, if_neg (fun z => absurd z.1 (by decide))]; exact a7 w hw
  · rw [hc] at q; exact absurd q (q2 j m)
  · rw [← hc] at q2; exact absurd q2 (q j2 m2)
  · exact ⟨by rw [e1, f1], by rw [e3, e6, e7]; exact hok, by rw [e3, f3, e4]; exact h⟩
