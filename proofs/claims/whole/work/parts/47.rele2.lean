theorem enM_ok {k wk now i : Nat} {RD HO : Nat → Int32} {fine : Int32} {m : EM} (hwk : wk ≤ 10) (hnow : now < 20) (hi : i ≤ 600) (hM : relM RD) (hD : ∀ w, w < 10 → ∃ d, d ≤ 4000 * i ∧ m.2.2.2.1 w = nI d) : ∀ {w : Nat}, w ≤ wk → (∀ v, v < 10 → ∃ d, d ≤ 4000 * (i + 1) ∧ (enM RD HO k now fine m w).2.2.2.1 v = nI d) ∧ (∀ v, w ≤ v → (enM RD HO k now fine m w).2.2.2.1 v = m.2.2.2.1 v) ∧ (∀ v, w ≤ v → (enM RD HO k now fine m w).2.2.2.2.1 v = m.2.2.2.2.1 v)
  | 0, _ => ⟨fun v hv => by obtain ⟨d, hd, e⟩ := hD v hv; exact ⟨d, by omega, e⟩, fun _ _ => rfl, fun _ _ => rfl⟩
  | w + 1, hw => by
    obtain ⟨a, b, c⟩ := enM_ok (k := k) (HO := HO) (fine := fine) hwk hnow hi hM hD (w := w) (by omega)
    refine ⟨fun v hv => ?_, fun v hv => ?_, fun v hv => ?_⟩
    · show ∃ d, d ≤ 4000 * (i + 1) ∧ (enMs RD HO k now fine w (enM RD HO k now fine m w)).2.2.2.1 v = nI d
      simp only [enMs]
      by_cases e : v = w
      · subst e
        rw [pk_us]
        obtain ⟨d, hd, ed⟩ := hD v hv
        obtain ⟨s, hs, es⟩ := fouV_le (show v < 10 by omega) hnow hM
        rw [b v (Nat.le_refl _), ed, es, nI_add, nI_clamp (by omega)]
        exact ⟨_, by omega, rfl⟩
      · rw [pk_un e]; exact a v hv
    · show (enMs RD HO k now fine w (enM RD HO k now fine m w)).2.2.2.1 v = _
      simp only [enMs]
      rw [pk_un (by omega)]; exact b v (by omega)
    · show (enMs RD HO k now fine w (enM RD HO k now fine m w)).2.2.2.2.1 v = _
      simp only [enMs]
      rw [pk_un (by omega)]; exact c v (by omega)
theorem end_nd {wk now i : Nat} {RD DE : Nat → Int32} (hwk : wk ≤ 10) (hi : i ≤ 600) (hM : relM RD) (hD : ∀ w, w < 10 → ∃ d, d ≤ 4000 * i ∧ DE w = nI d) : now < 20 → ∀ w, w < wk → ∃ nd, nd < 2 ^ 31 ∧ fouV RD w now + DE w = nI nd := fun hnow w hw => by
  obtain ⟨d, hd, ed⟩ := hD w (by omega)
  obtain ⟨s, hs, es⟩ := fouV_le (show w < 10 by omega) hnow hM
  exact ⟨s + d, by omega, by rw [ed, es, nI_add]⟩
theorem rel_end {k wk pj now now2 mow2 rk i : Nat} {RD RY L1 L2 L3 L4 L5 RW RS P0 P1 P2 P3 P4 P5 P6 P7 ST HO YO UI PO WE CO DE FI E2 g0 g3 g6 g7 h0 h1 h2 h3 m0 m3 n0 n1 n3 : Nat → Int32} {us ca us2 efa fa2 iy iy2 ii r1 r2 : Int32} (h : relQ k wk pj P0 P1 P2 P3 P4 P5 ST HO YO UI PO WE us ca E2) (hR : relR rk RY L1 L2 L3 L4 L5 RW RS) (hM : relM RD) (hI : relI now iy ii) (hL : relL i wk DE FI efa) (hwk : wk ≤ 10) (hnow : now ≤ 20) (hk : k ≤ 4000) (hi : i ≤ 600) (hok : pOk P0 P1 P6 P7 k)
    (q1 : (now < 20 ∧ r1 = (enI RD P1 k now (rAt 30 L4 (inF RY (nI now) rk)) (P0, P3, us, CO, DE, E2, FI, efa, 0) wk).2.2.2.2.2.2.2.2 ∧ now2 = now + 1 ∧ iy2 = 0 ∧ pOk g0 P1 g6 g7 k ∧ (g0, g3, us2, h0, h1, h2, h3, fa2, r1) = enI RD P1 k now (rAt 30 L4 (inF RY (nI now) rk)) (P0, P3, us, CO, DE, E2, FI, efa, 0) wk) ∨ (¬ now < 20 ∧ r1 = -1 ∧ now2 = now ∧ iy2 = iy ∧ g0 = P0 ∧ g3 = P3 ∧ g6 = P6 ∧ g7 = P7 ∧ us2 = us ∧ h0 = CO ∧ h1 = DE ∧ h2 = E2 ∧ h3 = FI ∧ fa2 = efa))
    (q2 : (now < 20 ∧ mow2 = now + 1 ∧ (m0, m3, n0, n1, n3, r2) = enM RD HO k now (rAt 30 (pS RS 100 1000) (inF RY (nI now) rk)) (ST, UI, CO, DE, FI, 0) wk) ∨ (¬ now < 20 ∧ r2 = -1 ∧ mow2 = now ∧ m0 = ST ∧ m3 = UI ∧ n0 = CO ∧ n1 = DE ∧ n3 = FI)) :
    r1 = r2 ∧ mow2 = now2 ∧ h0 = n0 ∧ h1 = n1 ∧ h3 = n3 ∧ now2 ≤ 20 ∧ pOk g0 P1 g6 g7 k ∧ relI now2 iy2 ii ∧ relL (i + 1) wk n1 n3 fa2 ∧ relQ k wk pj g0 P1 P2 g3 P4 P5 m0 HO YO m3 PO WE us2 ca h2 := by
  rcases q1 with ⟨a, e1, e2, e3, e4, e5⟩ | ⟨a, e1, e2, e3, c0, c3, c6, c7, cu, d0, d1, d2, d3, cf⟩ <;> rcases q2 with ⟨b, f2, f5⟩ | ⟨b, f1, f2, m0e, m3e, n0e, n1e, n3e⟩
  · have hfi : rAt 30 L4 (inF RY (nI now) rk) = rAt 30 (pS RS 100 1000) (inF RY (nI now) rk) := rAt_inF hR.1 (fun j hj => (hR.2 j hj).2.1.2.2.2.1)
    have en := enRel_all (rd := RD) (now := now) (fine := rAt 30 (pS RS 100 1000) (inF RY (nI now) rk)) (P1 := P1) (HO := HO) (c := (P0, P3, us, CO, DE, E2, FI, efa, 0)) (m := (ST, UI, CO, DE, FI, 0)) hwk ⟨rfl, rfl, rfl, rfl, hL.2.1, h⟩ (Nat.le_refl wk)
    have eo := enM_ok (k := k) (HO := HO) (fine := rAt 30 (pS RS 100 1000) (inF RY (nI now) rk)) (m := (ST, UI, CO, DE, FI, 0)) hwk a hi hM hL.1 (Nat.le_refl wk)
    rw [hfi] at e5
    rw [← e5, ← f5] at en
    rw [← f5] at eo
    obtain ⟨w1, w2, w3, w4, w5, w6⟩ := en
    obtain ⟨x1, x2, x3⟩ := eo
    dsimp only at w1 w2 w3 w4 w5 w6 x1 x2 x3
    refine ⟨w4, by rw [e2, f2], w1, w2, w3, by omega, e4, ?_, ⟨x1, w5, fun w hw hw2 => (x3 w hw).trans (hL.2.2 w hw hw2)⟩, w6⟩
    rw [e2, e3]
    refine ⟨Or.inl rfl, ⟨fun _ z => ?_, fun _ => rfl⟩, hI.2.2.imp id (fun z => z.imp (fun v y => ⟨by omega, y.2⟩))⟩
    rcases hI.2.2 with y | ⟨v, hv, y⟩
    · exact nI_pos (show now + 1 < 2 ^ 31 by omega) (by rw [← z, y]; decide)
    · have := (nI_eq (by omega) (by omega)).mp (y.symm.trans z)
      omega
  · exact absurd a b
  · exact absurd b a
  · refine ⟨by rw [e1, f1], by rw [e2, f2], by rw [d0, n0e], by rw [d1, n1e], by rw [d3, n3e], by omega, by rw [c0, c6, c7]; exact hok, by rw [e2, e3]; exact hI, ?_, by rw [c0, c3, m0e, m3e, cu, d2]; exact h⟩
    rw [n1e, n3e, cf]
    exact ⟨fun w hw => by obtain ⟨d, hd, e⟩ := hL.1 w hw; exact ⟨d, by omega, e⟩, hL.2⟩
