theorem fHit_rel {P4 PO P0 ST : Nat → Int32} {k : Nat} {x : Int32} {b : Bool} (h4 : ∀ j, j < k → P4 j = PO j) (h0 : ∀ j, j < k → (P0 j = 0 ↔ ST j = 0)) : ∀ j, j < k → fHit P4 x P0 b j = fHit PO x ST b j := fun j hj => by
  unfold fHit
  rw [h4 j hj, decide_eq_decide.mpr (h0 j hj)]
theorem fDe_rel {P4 PO P0 ST P1 HO DE : Nat → Int32} {k : Nat} {x : Int32} (h4 : ∀ j, j < k → P4 j = PO j) (h0 : ∀ j, j < k → (P0 j = 0 ↔ ST j = 0)) (h1 : ∀ j, j < k → P1 j = HO j) : ∀ {i : Nat}, i ≤ k → fDe P4 P1 x P0 DE i = fDe PO HO x ST DE i
  | 0, _ => rfl
  | i + 1, hi => by
    have ih := fDe_rel (DE := DE) (x := x) h4 h0 h1 (i := i) (by omega)
    unfold fDe
    rw [ih, h4 i (by omega), h1 i (by omega)]
    by_cases q : PO i = x ∧ ¬ ST i = 0
    · rw [if_pos q, if_pos ⟨q.1, fun z => q.2 ((h0 i (by omega)).mp z)⟩]
    · rw [if_neg q, if_neg (fun z => q ⟨z.1, fun y => z.2 ((h0 i (by omega)).mpr y)⟩)]
theorem fDe_le {PO ST HO DE : Nat → Int32} {x : Int32} {D : Nat} (hD : ∀ w, w < 10 → ∃ d, d ≤ D ∧ DE w = nI d) : ∀ {i : Nat}, ∀ w, w < 10 → ∃ d, d ≤ D + i ∧ fDe PO HO x ST DE i w = nI d
  | 0, w, hw => hD w hw
  | i + 1, w, hw => by
    obtain ⟨d, hd, ed⟩ := fDe_le (PO := PO) (ST := ST) (HO := HO) (x := x) hD (i := i) w hw
    unfold fDe
    split
    · by_cases e : w = (HO i).toNatClampNeg
      · rw [← e, pk_us, ed]; exact ⟨d + 1, by omega, nI_1 d⟩
      · rw [pk_un e]; exact ⟨d, by omega, ed⟩
    · exact ⟨d, by omega, ed⟩
theorem fSt_cnt {PO ST HO : Nat → Int32} {x y v : Int32} (hv : ¬ v = 0) : ∀ {n : Nat}, (∀ j, j < n → ∀ i, j < i → True) → ∀ {k : Nat}, n ≤ k → cntP (cOf (fSt 3 PO x ST k) HO v y) n = cntP (cOf ST HO v y) n + (if v = 3 then cntP (fun j => fHit PO x ST true j && decide (y = -2147483648 ∨ HO j = y)) n else 0)
  | 0, _, _, _ => by split <;> rfl
  | n + 1, _, k, hk => by
    have ih := fSt_cnt (PO := PO) (ST := ST) (HO := HO) (x := x) (y := y) hv (n := n) (fun _ _ _ _ => trivial) (k := k) (by omega)
    by_cases q : PO n = x ∧ ST n = 0
    · have e1 : fSt 3 PO x ST k n = 3 := if_pos ⟨by omega, q.1, q.2⟩
      have e2 : cOf ST HO v y n = false := decide_eq_false (fun z => hv (z.1.symm.trans q.2))
      rw [cnt_f e2]
      have e3 : fHit PO x ST true n = true := (hit_t q.1 q.2).1
      by_cases q3 : v = 3
      · subst q3
        rw [if_pos rfl] at ih ⊢
        by_cases q4 : y = -2147483648 ∨ HO n = y
        · rw [cnt_t (P := cOf (fSt 3 PO x ST k) HO 3 y) (decide_eq_true ⟨e1, q4⟩), cnt_t (P := fun j => fHit PO x ST true j && decide (y = -2147483648 ∨ HO j = y)) (by rw [e3, decide_eq_true q4]; rfl)]
          omega
        · rw [cnt_f (P := cOf (fSt 3 PO x ST k) HO 3 y) (decide_eq_false (fun z => q4 z.2)), cnt_f (P := fun j => fHit PO x ST true j && decide (y = -2147483648 ∨ HO j = y)) (by rw [e3, decide_eq_false q4]; rfl)]
          exact ih
      · rw [if_neg q3] at ih ⊢
        rw [cnt_f (P := cOf (fSt 3 PO x ST k) HO v y) (decide_eq_false (fun z => q3 (z.1.symm.trans e1)))]
        exact ih
    · have e1 : fSt 3 PO x ST k n = ST n := if_neg (fun z => q z.2)
      have e2 : cOf (fSt 3 PO x ST k) HO v y n = cOf ST HO v y n := by unfold cOf; rw [e1]
      have e3 : fHit PO x ST true n = false := by
        by_cases q1 : PO n = x
        · exact (hit_f q1 (fun z => q ⟨q1, z⟩)).1
        · exact hit_n q1 true
      have e4 : cntP (fun j => fHit PO x ST true j && decide (y = -2147483648 ∨ HO j = y)) (n + 1) = cntP (fun j => fHit PO x ST true j && decide (y = -2147483648 ∨ HO j = y)) n := cnt_f (by rw [e3]; rfl)
      show cntP (cOf (fSt 3 PO x ST k) HO v y) n + (if cOf (fSt 3 PO x ST k) HO v y n then 1 else 0) = cntP (cOf ST HO v y) n + (if cOf ST HO v y n then 1 else 0) + _
      rw [e2, e4, ih]; omega
theorem rel_falses {k wk pj i : Nat} {P0 P1 P2 P3 P4 P5 P6 P7 ST HO YO UI PO WE FP DE g0 g6 h1 gp m0 n1 np : Nat → Int32} {us ca ca2 : Int32} {E2 : Nat → Int32} {x r1 r2 : Int32} (h : relQ k wk pj P0 P1 P2 P3 P4 P5 ST HO YO UI PO WE us ca E2) (hk : k ≤ 4000) (hpj : pj ≤ 20) (hok : pOk P0 P1 P6 P7 k) (hD : ∀ w, w < 10 → ∃ d, d ≤ 4000 * i ∧ DE w = nI d)
    (q1 : (∃ p, (p < pj ∧ x = nI p ∧ FP p = 0) ∧ r1 = nI (cntP (fHit P4 (nI p) P0 false) k) ∧ pOk g0 P1 g6 P7 k ∧ g0 = fSt 2 P4 (nI p) P0 k ∧ ca2 = ca + nI (cntP (fHit P4 (nI p) P0 true) k) ∧ h1 = fDe P4 P1 (nI p) P0 DE k ∧ gp = upd FP p 1) ∨ ((∀ p, ¬ (p < pj ∧ x = nI p ∧ FP p = 0)) ∧ r1 = -1 ∧ g0 = P0 ∧ g6 = P6 ∧ ca2 = ca ∧ h1 = DE ∧ gp = FP))
    (q2 : (∃ p, (p < pj ∧ x = nI p ∧ FP p = 0) ∧ r2 = nI (cntP (fHit PO (nI p) ST false) k) ∧ m0 = fSt 3 PO (nI p) ST k ∧ n1 = fDe PO HO (nI p) ST DE k ∧ np = upd FP p 1) ∨ ((∀ p, ¬ (p < pj ∧ x = nI p ∧ FP p = 0)) ∧ r2 = -1 ∧ m0 = ST ∧ n1 = DE ∧ np = FP)) :
    r1 = r2 ∧ h1 = n1 ∧ gp = np ∧ pOk g0 P1 g6 P7 k ∧ (∀ w, w < 10 → ∃ d, d ≤ 4000 * (i + 1) ∧ n1 w = nI d) ∧ relQ k wk pj g0 P1 P2 P3 P4 P5 m0 HO YO UI PO WE us ca2 E2 := by
  have z4 : ∀ j, j < k → P4 j = PO j := fun j hj => (h.1 j hj).2.2.2.2.1
  have z0 : ∀ j, j < k → (P0 j = 0 ↔ ST j = 0) := fun j hj => stR_0 (h.1 j hj).1
  have z1 : ∀ j, j < k → P1 j = HO j := fun j hj => (h.1 j hj).2.1
  rcases q1 with ⟨p, a, e1, e2, e3, e4, e5, e6⟩ | ⟨a, e1, e3, e7, e4, e5, e6⟩ <;> rcases q2 with ⟨p2, b, f1, f3, f5, f6⟩ | ⟨b, f1, f3, f5, f6⟩
  · have ep : p = p2 := (nI_eq (by omega) (by omega)).mp (a.2.1.symm.trans b.2.1)
    subst ep
    refine ⟨by rw [e1, f1, cntP_congr (fHit_rel z4 z0)], by rw [e5, f5, fDe_rel z4 z0 z1 (Nat.le_refl k)], by rw [e6, f6], e2, fun w hw => ?_, ?_⟩
    · obtain ⟨d, hd, ed⟩ := fDe_le (PO := PO) (ST := ST) (HO := HO) (x := nI p) hD (i := k) w hw
      exact ⟨d, by omega, by rw [f5]; exact ed⟩
    · obtain ⟨a1, a2, a3, a4, a5, a6, a7⟩ := h
      have cc : ∀ v y : Int32, ¬ v = 0 → ¬ v = 3 → cntP (cOf m0 HO v y) k = cntP (cOf ST HO v y) k := fun v y hv h3 => by
        rw [f3, fSt_cnt hv (fun _ _ _ _ => trivial) (Nat.le_refl k), if_neg h3, Nat.add_zero]
      refine ⟨fun j hj => ?_, a2, a3, a4, ?_, ?_, fun w hw => ?_⟩
      · obtain ⟨b0, b1, b2, b3, b4, b5⟩ := a1 j hj
        refine ⟨?_, b1, b2, b3, b4, b5⟩
        rw [e3, f3]
        by_cases q : PO j = nI p ∧ ST j = 0
        · rw [show fSt 3 PO (nI p) ST k j = 3 from if_pos ⟨hj, q⟩, show fSt 2 P4 (nI p) P0 k j = 2 from if_pos ⟨hj, b4.trans q.1, (z0 j hj).mpr q.2⟩]
          exact Or.inr (Or.inr (Or.inr ⟨rfl, rfl⟩))
        · rw [show fSt 3 PO (nI p) ST k j = ST j from if_neg (fun z => q z.2), show fSt 2 P4 (nI p) P0 k j = P0 j from if_neg (fun z => q ⟨b4.symm.trans z.2.1, (z0 j hj).mp z.2.2⟩)]
          exact b0
      · rw [cc 1 _ (by decide) (by decide)]; exact a5
      · rw [cc 2 _ (by decide) (by decide), f3, fSt_cnt (by decide) (fun _ _ _ _ => trivial) (Nat.le_refl k), if_pos rfl, e4, a6, ← nI_add, Int32.add_assoc]
        rw [cntP_congr (fHit_rel z4 z0)]
        refine congrArg (fun n => nI (cntP (cOf ST HO 2 UNT) k) + (nI (cntP (cOf ST HO 3 UNT) k) + nI n)) (cntP_congr (fun j hj => ?_))
        rw [decide_eq_true (Or.inl rfl), Bool.and_true]
      · rw [cc 1 _ (by decide) (by decide)]; exact a7 w hw
  · exact absurd a (b p)
  · exact absurd b (a p2)
  · refine ⟨by rw [e1, f1], by rw [e5, f5], by rw [e6, f6], by rw [e3, e7]; exact hok, fun w hw => ?_, by rw [e3, f3, e4]; exact h⟩
    obtain ⟨d, hd, ed⟩ := hD w hw
    exact ⟨d, by omega, by rw [f5]; exact ed⟩
