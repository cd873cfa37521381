theorem rel_works {k wk pj bk i x2 w2 : Nat} {P0 P1 P2 P3 P4 P5 ST HO YO UI PO WE E2 B0 B1 B2 B3 bW bM bP DE FI : Nat → Int32} {us ca efa r1 r2 : Int32} (hQ : relQ k wk pj P0 P1 P2 P3 P4 P5 ST HO YO UI PO WE us ca E2) (hB : relB bk wk B0 B1 B2 B3 bW bM bP) (hL : relL i wk DE FI efa) (hwk : wk ≤ 10)
    (h1 : ((wk < 10) ∧ r1 = nI wk ∧ x2 = wk + 1) ∨ ((¬ wk < 10) ∧ r1 = -1 ∧ x2 = wk)) (h2 : ((wk < 10) ∧ r2 = nI wk ∧ w2 = wk + 1) ∨ ((¬ wk < 10) ∧ r2 = -1 ∧ w2 = wk)) :
    r1 = r2 ∧ w2 = x2 ∧ x2 ≤ 10 ∧ relQ k x2 pj P0 P1 P2 P3 P4 P5 ST HO YO UI PO WE us ca E2 ∧ relB bk x2 B0 B1 B2 B3 bW bM bP ∧ relL (i + 1) x2 DE FI efa := by
  rcases h1 with ⟨a, e1, e2⟩ | ⟨a, e1, e2⟩ <;> rcases h2 with ⟨b, f1, f2⟩ | ⟨b, f1, f2⟩
  · rw [e1, f1, e2, f2]
    exact ⟨rfl, rfl, by omega, relQ_wk hQ, relB_wk hB, relL_i (relL_wk hL)⟩
  · exact absurd a b
  · exact absurd b a
  · rw [e1, f1, e2, f2]
    exact ⟨rfl, rfl, hwk, hQ, hB, relL_i hL⟩
theorem rel_rule2 {rk k2 l2 : Nat} {RY L1 L2 L3 L4 L5 RW RS g0 g1 g2 g3 g4 g5 m0 m1 m2 : Nat → Int32} {x w s r1 r2 : Int32} (h : relR rk RY L1 L2 L3 L4 L5 RW RS)
    (h1 : ((ruOk rk x w s) ∧ r1 = 1 ∧ k2 = rk + 1 ∧ g0 = upd RY rk x ∧ g1 = upd L1 rk (w / 1000) ∧ g2 = upd L2 rk (w - w / 1000 * 1000) ∧ g3 = upd L3 rk (s / 100000) ∧ g4 = upd L4 rk (s / 100 - s / 100 / 1000 * 1000) ∧ g5 = upd L5 rk (s - s / 100 * 100)) ∨ ((¬ ruOk rk x w s) ∧ r1 = 0 ∧ k2 = rk ∧ g0 = RY ∧ g1 = L1 ∧ g2 = L2 ∧ g3 = L3 ∧ g4 = L4 ∧ g5 = L5))
    (h2 : ((ruOk rk x w s) ∧ r2 = 1 ∧ l2 = rk + 1 ∧ m0 = upd RY rk x ∧ m1 = upd RW rk w ∧ m2 = upd RS rk s) ∨ ((¬ ruOk rk x w s) ∧ r2 = 0 ∧ l2 = rk ∧ m0 = RY ∧ m1 = RW ∧ m2 = RS)) :
    r1 = r2 ∧ l2 = k2 ∧ g0 = m0 ∧ relR k2 m0 g1 g2 g3 g4 g5 m1 m2 := by
  rcases h1 with ⟨a, e1, e2, e3, e4, e5, e6, e7, e8⟩ | ⟨a, e1, e2, e3, e4, e5, e6, e7, e8⟩ <;> rcases h2 with ⟨b, f1, f2, f3, f4, f5⟩ | ⟨b, f1, f2, f3, f4, f5⟩
  · rw [e1, f1, e2, f2, e3, f3, e4, e5, e6, e7, e8, f4, f5]
    exact ⟨rfl, rfl, rfl, rel_rule h a⟩
  · exact absurd a b
  · exact absurd b a
  · rw [e1, f1, e2, f2, e3, f3, e4, e5, e6, e7, e8, f4, f5]
    exact ⟨rfl, rfl, rfl, h⟩
theorem rel_meter2 {wk now : Nat} {RD g m : Nat → Int32} {a1 a2 a3 a4 r1 r2 : Int32} (h : relM RD) (hwk : wk ≤ 10)
    (h1 : (∃ w y q, mtC wk now a1 a2 a3 a4 w y q ∧ r1 = 1 ∧ g = upd RD ((w * 20 + y) * 4 + q) a4) ∨ ((∀ w y q, ¬ mtC wk now a1 a2 a3 a4 w y q) ∧ r1 = 0 ∧ g = RD))
    (h2 : (∃ w y q, mtC wk now a1 a2 a3 a4 w y q ∧ r2 = 1 ∧ m = upd RD ((w * 20 + y) * 4 + q) a4) ∨ ((∀ w y q, ¬ mtC wk now a1 a2 a3 a4 w y q) ∧ r2 = 0 ∧ m = RD)) :
    r1 = r2 ∧ g = m ∧ relM m := by
  rcases h1 with ⟨w, y, q, a, e1, e2⟩ | ⟨a, e1, e2⟩ <;> rcases h2 with ⟨w2, y2, q2, b, f1, f2⟩ | ⟨b, f1, f2⟩
  · obtain ⟨c1, c2, c3⟩ := rel_meter (RD := RD) a hwk b
    rw [e1, f1, e2, f2, c1, c2, c3]
    exact ⟨rfl, rfl, relM_put h b⟩
  · exact absurd a (b w y q)
  · exact absurd b (a w2 y2 q2)
  · rw [e1, f1, e2, f2]
    exact ⟨rfl, rfl, h⟩
theorem rel_bid2 {bk wk k2 l2 : Nat} {B0 B1 B2 B3 bW bM bP g0 g1 g2 g3 m0 m1 m2 : Nat → Int32} {a1 a2 a3 r1 r2 : Int32} (h : relB bk wk B0 B1 B2 B3 bW bM bP) (hwk : wk ≤ 10)
    (h1 : ((bdC wk bk a1 a2 a3) ∧ r1 = nI (bk + 1) ∧ k2 = bk + 1 ∧ g0 = rSq B0 (enP B2 a3 bk) bk a1 ∧ g1 = rSq B1 (enP B2 a3 bk) bk a2 ∧ g2 = rSq B2 (enP B2 a3 bk) bk a3 ∧ g3 = upd B3 bk 0) ∨ ((¬ bdC wk bk a1 a2 a3) ∧ r1 = -1 ∧ k2 = bk ∧ g0 = B0 ∧ g1 = B1 ∧ g2 = B2 ∧ g3 = B3))
    (h2 : ((bdC wk bk a1 a2 a3) ∧ r2 = nI (bk + 1) ∧ l2 = bk + 1 ∧ m0 = upd bW bk a1 ∧ m1 = upd bM bk a2 ∧ m2 = upd bP bk a3) ∨ ((¬ bdC wk bk a1 a2 a3) ∧ r2 = -1 ∧ l2 = bk ∧ m0 = bW ∧ m1 = bM ∧ m2 = bP)) :
    r1 = r2 ∧ l2 = k2 ∧ relB k2 wk g0 g1 g2 g3 m0 m1 m2 := by
  rcases h1 with ⟨a, e1, e2, e3, e4, e5, e6⟩ | ⟨a, e1, e2, e3, e4, e5, e6⟩ <;> rcases h2 with ⟨b, f1, f2, f3, f4, f5⟩ | ⟨b, f1, f2, f3, f4, f5⟩
  · rw [e1, f1, e2, f2, e3, e4, e5, e6, f3, f4, f5]
    exact ⟨rfl, rfl, rel_bid h hwk a⟩
  · exact absurd a b
  · exact absurd b a
  · rw [e1, f1, e2, f2, e3, e4, e5, e6, f3, f4, f5]
    exact ⟨rfl, rfl, h⟩
theorem offset_N {wk pj now k N : Nat} {a1 a2 : Int32} (hkN : k ≤ N) (hN : N ≤ 4000) : ∃ Ng, (∀ n, 1 ≤ n → n ≤ 100 → a2 = nI n → ofC wk pj now k a1 a2 → Ng = mrR N (k + n)) ∧ (¬ ofC wk pj now k a1 a2 → Ng = N) ∧ phi N ≤ phi Ng ∧ Ng ≤ 4000 := by
  by_cases h : ofC wk pj now k a1 a2
  · obtain ⟨-, ⟨n, b1, b2, b3, b4⟩, -, -⟩ := id h
    obtain ⟨z1, z2, z3, z4⟩ := mrR_le (N := N) (m := k + n) hN b4
    refine ⟨mrR N (k + n), fun n2 c1 c2 c3 _ => ?_, fun c => absurd h c, z4, z3⟩
    have e : n = n2 := (nI_eq (by omega) (by omega)).mp (b3.symm.trans c3)
    rw [e]
  · exact ⟨N, fun n2 c1 c2 c3 c => absurd c h, fun _ => rfl, Nat.le_refl _, hN⟩
theorem issue_N {P Q : Prop} {N k c wk : Nat} {p : Nat → Nat} (hkN : k ≤ N) (hN : N ≤ 4000) (hsm : smN p wk ≤ c) : ∃ Ng, ((P ∧ Q ∧ k + c ≤ 4000) → Ng = mrR (mrI N k p wk) (k + c)) ∧ (¬ (P ∧ Q ∧ k + c ≤ 4000) → Ng = N) ∧ phi N ≤ phi Ng ∧ Ng ≤ 4000 := by
  by_cases h : P ∧ Q ∧ k + c ≤ 4000
  · obtain ⟨u1, u2, u3⟩ := mrI_ok (p := p) hkN hN (w := wk) (by have := h.2.2; omega)
    obtain ⟨z1, z2, z3, z4⟩ := mrR_le (N := mrI N k p wk) (m := k + c) u2 h.2.2
    exact ⟨_, fun _ => rfl, fun c => absurd h c, Nat.le_trans u3 z4, z3⟩
  · exact ⟨N, fun c => absurd c h, fun _ => rfl, Nat.le_refl _, hN⟩
theorem relC_s {ck : Nat} {T0 T1 T2 CM TN CS : Nat → Int32} {tal : Int32} (h : relC ck T0 T1 T2 CM TN CS tal) : ∃ s, ctR T0 T1 T2 ck CM TN CS s := h.2.2.1
