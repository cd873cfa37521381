theorem rel_fouled {wk : Nat} {RD : Nat → Int32} {a1 a2 r1 r2 : Int32} (hwk : wk ≤ 10)
    (h1 : (∃ w y, (w < wk ∧ y < 20 ∧ a1 = nI w ∧ a2 = nI y) ∧ r1 = fouV RD w y) ∨ ((∀ w y, ¬ (w < wk ∧ y < 20 ∧ a1 = nI w ∧ a2 = nI y)) ∧ r1 = -1))
    (h2 : (∃ w y, (w < wk ∧ y < 20 ∧ a1 = nI w ∧ a2 = nI y) ∧ r2 = fouV RD w y) ∨ ((∀ w y, ¬ (w < wk ∧ y < 20 ∧ a1 = nI w ∧ a2 = nI y)) ∧ r2 = -1)) : r1 = r2 := by
  rcases h1 with ⟨w, y, q, e⟩ | ⟨q, e⟩ <;> rcases h2 with ⟨w2, y2, q2, e2⟩ | ⟨q2, e2⟩
  · have z1 : w = w2 := (nI_eq (by omega) (by omega)).mp (q.2.2.1.symm.trans q2.2.2.1)
    have z2 : y = y2 := (nI_eq (by omega) (by omega)).mp (q.2.2.2.symm.trans q2.2.2.2)
    subst z1; subst z2; rw [e, e2]
  · exact absurd q (q2 w y)
  · exact absurd q2 (q w2 y2)
  · rw [e, e2]
theorem stR_told {a b : Int32} (h : stR a b) : a = (if b = 3 then 2 else b) := by
  rcases h with ⟨rfl, rfl⟩ | ⟨rfl, rfl⟩ | ⟨rfl, rfl⟩ | ⟨rfl, rfl⟩ <;> decide
theorem rel_permit {k wk pj : Nat} {P0 P1 P2 P3 P4 P5 ST HO YO UI PO WE : Nat → Int32} {us ca : Int32} {E2 : Nat → Int32} {x t r1 r2 : Int32} (h : relQ k wk pj P0 P1 P2 P3 P4 P5 ST HO YO UI PO WE us ca E2) (hk : k ≤ 4000)
    (h1 : (∃ j, (j < k ∧ x = nI j) ∧ r1 = pmF (P0 j) (P1 j) (P2 j) (P3 j) (P4 j) (P5 j) t) ∨ ((¬ ∃ j, j < k ∧ x = nI j) ∧ r1 = -2147483648))
    (h2 : (∃ j, (j < k ∧ x = nI j) ∧ r2 = pmF (if ST j = 3 then 2 else ST j) (HO j) (YO j) (UI j) (PO j) (WE j) t) ∨ ((¬ ∃ j, j < k ∧ x = nI j) ∧ r2 = -2147483648)) : r1 = r2 := by
  rcases h1 with ⟨j, q, e⟩ | ⟨q, e⟩ <;> rcases h2 with ⟨j2, q2, e2⟩ | ⟨q2, e2⟩
  · have z : j = j2 := (nI_eq (by omega) (by omega)).mp (q.2.symm.trans q2.2)
    subst z
    obtain ⟨b0, b1, b2, b3, b4, b5⟩ := h.1 j q.1
    rw [e, e2, stR_told b0, b1, b2, b3, b4, b5]
  · exact absurd ⟨j, q⟩ q2
  · exact absurd ⟨j2, q2⟩ q
  · rw [e, e2]
theorem rel_told {k wk pj : Nat} {P0 P1 P2 P3 P4 P5 P6 P7 ST HO YO UI PO WE CO DE FI : Nat → Int32} {us ca : Int32} {E2 : Nat → Int32} {x t r1 r2 : Int32} (h : relQ k wk pj P0 P1 P2 P3 P4 P5 ST HO YO UI PO WE us ca E2) (hwk : wk ≤ 10) (hok : pOk P0 P1 P6 P7 k)
    (h1 : (∃ j, (j < wk ∧ x = nI j) ∧ r1 = (if t = 2 then P6 (j + 1) else lgF (CO j) (DE j) (E2 j) (FI j) t)) ∨ ((¬ ∃ j, j < wk ∧ x = nI j) ∧ r1 = -2147483648))
    (h2 : (∃ j, (j < wk ∧ x = nI j) ∧ r2 = (if t = 2 then nI (cntP (hW ST HO (j + 1)) k) else lgF (CO j) (DE j) (nI (cntP (cOf ST HO 1 (nI j)) k)) (FI j) t)) ∨ ((¬ ∃ j, j < wk ∧ x = nI j) ∧ r2 = -2147483648)) : r1 = r2 := by
  rcases h1 with ⟨j, q, e⟩ | ⟨q, e⟩ <;> rcases h2 with ⟨j2, q2, e2⟩ | ⟨q2, e2⟩
  · have z : j = j2 := (nI_eq (by omega) (by omega)).mp (q.2.symm.trans q2.2)
    subst z
    rw [e, e2, (hok (j + 1) (by omega)).1, relQ_cnt h, h.2.2.2.2.2.2 j (by omega)]
  · exact absurd ⟨j, q⟩ q2
  · exact absurd ⟨j2, q2⟩ q
  · rw [e, e2]
theorem cnt4 {ST HO : Nat → Int32} : ∀ {k : Nat}, (∀ j, j < k → ST j = 0 ∨ ST j = 1 ∨ ST j = 2 ∨ ST j = 3) → cntP (cOf ST HO 0 UNT) k + cntP (cOf ST HO 1 UNT) k + cntP (cOf ST HO 2 UNT) k + cntP (cOf ST HO 3 UNT) k = k
  | 0, _ => rfl
  | k + 1, h => by
    have ih := cnt4 (ST := ST) (HO := HO) (k := k) (fun j hj => h j (by omega))
    have t : ∀ v : Int32, ST k = v → cntP (cOf ST HO v UNT) (k + 1) = cntP (cOf ST HO v UNT) k + 1 := fun v e => cnt_t (P := cOf ST HO v UNT) (decide_eq_true ⟨e, Or.inl rfl⟩)
    have f : ∀ v : Int32, ¬ ST k = v → cntP (cOf ST HO v UNT) (k + 1) = cntP (cOf ST HO v UNT) k := fun v e => cnt_f (P := cOf ST HO v UNT) (decide_eq_false (fun z => e z.1))
    rcases h k (by omega) with e | e | e | e
    · rw [t 0 e, f 1 (by rw [e]; decide), f 2 (by rw [e]; decide), f 3 (by rw [e]; decide)]; omega
    · rw [f 0 (by rw [e]; decide), t 1 e, f 2 (by rw [e]; decide), f 3 (by rw [e]; decide)]; omega
    · rw [f 0 (by rw [e]; decide), f 1 (by rw [e]; decide), t 2 e, f 3 (by rw [e]; decide)]; omega
    · rw [f 0 (by rw [e]; decide), f 1 (by rw [e]; decide), f 2 (by rw [e]; decide), t 3 e]; omega
theorem shS_tail {F : Nat → Int32} {w : Nat} : ∀ {n : Nat}, w ≤ n → (∀ j, w ≤ j → j < n → F j = 0) → shS F n = shS F w
  | 0, h, _ => by rw [Nat.le_zero.mp h]
  | n + 1, h, hz => by
    rcases Nat.lt_or_ge w (n + 1) with q | q
    · show shS F n + F n = _
      rw [hz n (by omega) (by omega), Int32.add_zero]
      exact shS_tail (by omega) (fun j a b => hz j a (by omega))
    · rw [Nat.le_antisymm h q]
theorem rel_count {k wk pj now bk i : Nat} {P0 P1 P2 P3 P4 P5 P6 P7 ST HO YO UI PO WE DE FI : Nat → Int32} {us ca ac efa : Int32} {E2 : Nat → Int32} {t r1 r2 : Int32} (h : relQ k wk pj P0 P1 P2 P3 P4 P5 ST HO YO UI PO WE us ca E2) (hwk : wk ≤ 10) (hok : pOk P0 P1 P6 P7 k) (hL : relL i wk DE FI efa)
    (h1 : r1 = ctV (nI now) (nI wk) (nI k) (nI k - us - ca - P6 0) (P6 0) us ca (nI bk) ac efa (nI pj) t)
    (h2 : r2 = ctV (nI now) (nI wk) (nI k) (nI (cntP (cOf ST HO 0 (-2147483648)) k) - nI (cntP (hW ST HO 0) k)) (nI (cntP (hW ST HO 0) k)) (nI (cntP (cOf ST HO 1 (-2147483648)) k)) (nI (cntP (cOf ST HO 2 (-2147483648)) k) + nI (cntP (cOf ST HO 3 (-2147483648)) k)) (nI bk) ac (shS FI wk) (nI pj) t) : r1 = r2 := by
  obtain ⟨a1, a2, a3, a4, a5, a6, a7⟩ := id h
  have e6 : P6 0 = nI (cntP (hW ST HO 0) k) := (hok 0 (by omega)).1.trans (by rw [relQ_cnt h])
  have ef : efa = shS FI wk := hL.2.1.trans (shS_tail hwk (fun j a b => hL.2.2 j a b))
  have e4 : cntP (cOf ST HO 0 (-2147483648)) k + cntP (cOf ST HO 1 UNT) k + cntP (cOf ST HO 2 UNT) k + cntP (cOf ST HO 3 UNT) k = k := cnt4 (ST := ST) (HO := HO) (k := k) (fun j hj => by
    rcases (a1 j hj).1 with z | z | z | z
    · exact Or.inl z.1
    · exact Or.inr (Or.inl z.1)
    · exact Or.inr (Or.inr (Or.inl z.1))
    · exact Or.inr (Or.inr (Or.inr z.1)))
  have e3 : nI k - us - ca = nI (cntP (cOf ST HO 0 (-2147483648)) k) := by
    rw [a5, a6, nI_add, pk_sub (by omega), pk_sub (by omega)]
    exact congrArg nI (by omega)
  rw [h1, h2, e3, e6, ef, a5, a6]
