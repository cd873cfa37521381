/-- rules: the first rk of them -/
def relR (rk : Nat) (RY L1 L2 L3 L4 L5 RW RS : Nat → Int32) : Prop := rk ≤ 30 ∧ ∀ j, j < rk → (∃ v, v < 20 ∧ RY j = nI v) ∧ (L1 j = cW RW j ∧ L2 j = fW RW j ∧ L3 j = pS RS 100000 1000 j ∧ L4 j = pS RS 100 1000 j ∧ L5 j = pS RS 1 100 j) ∧ (∃ c, c ≤ 400 ∧ L1 j = nI c) ∧ (∃ c, c ≤ 100 ∧ L2 j = nI c) ∧ (∃ c, c ≤ 100 ∧ L3 j = nI c) ∧ (∃ c, c ≤ 99 ∧ L5 j = nI c)
def relM (RD : Nat → Int32) : Prop := ∀ j, j < 800 → RD j = -1 ∨ ∃ v, v < 100 ∧ RD j = nI v
def stR (a b : Int32) : Prop := (b = 0 ∧ a = 0) ∨ (b = 1 ∧ a = 1) ∨ (b = 2 ∧ a = 2) ∨ (b = 3 ∧ a = 2)
abbrev UNT : Int32 := -2147483648
/-- permits: the first k of them (what held and searched say stands apart: pOk) -/
def relQ (k wk pj : Nat) (P0 P1 P2 P3 P4 P5 ST HO YO UI PO WE : Nat → Int32) (us ca : Int32) (E2 : Nat → Int32) : Prop :=
  (∀ j, j < k → stR (P0 j) (ST j) ∧ P1 j = HO j ∧ P2 j = YO j ∧ P3 j = UI j ∧ P4 j = PO j ∧ P5 j = WE j) ∧ (∀ j, k ≤ j → j < 4000 → WE j = 0) ∧ (∀ j, j < k → HO j = -1 ∨ ∃ w, w < wk ∧ HO j = nI w) ∧ (∀ j, j < k → PO j = -1 ∨ ((∃ p, p < pj ∧ PO j = nI p) ∧ ∃ w, w < wk ∧ HO j = nI w)) ∧
  us = nI (cntP (cOf ST HO 1 UNT) k) ∧ ca = nI (cntP (cOf ST HO 2 UNT) k) + nI (cntP (cOf ST HO 3 UNT) k) ∧ (∀ w, w < 10 → E2 w = nI (cntP (cOf ST HO 1 (nI w)) k))
def relI (now : Nat) (iy ii : Int32) : Prop := (iy = 0 ∨ iy = 1) ∧ (iy = 0 ↔ ¬ ii = nI now) ∧ (ii = -1 ∨ ∃ v, v ≤ now ∧ ii = nI v)
def relB (bk wk : Nat) (B0 B1 B2 B3 bW bM bP : Nat → Int32) : Prop := bk ≤ 40 ∧ (∃ s, bdR B0 B1 B2 bk bW bM bP s ∧ ∀ F : Nat → Int32, shS (fun i => F (s i)) bk = shS F bk) ∧ (∀ i, i < bk → B3 i = 0) ∧ ∀ i, i < bk → ∃ w, w < wk ∧ B0 i = nI w
def relC (ck : Nat) (T0 T1 T2 CM TN CS : Nat → Int32) (tal : Int32) : Prop := ck = smN (fun w => (CM w).toNatClampNeg) 10 ∧ (∀ w, w < 10 → ∃ e, e ≤ 4 ∧ CM w = nI e) ∧ (∃ s, ctR T0 T1 T2 ck CM TN CS s) ∧ tal = shS T1 ck
def relL (i wk : Nat) (DE FI : Nat → Int32) (efa : Int32) : Prop := (∀ w, w < 10 → ∃ d, d ≤ 4000 * i ∧ DE w = nI d) ∧ efa = shS FI 10 ∧ ∀ w, wk ≤ w → w < 10 → FI w = 0
theorem rAt_inF {f g RY : Nat → Int32} {y : Int32} {rk : Nat} (hk : rk ≤ 30) (h : ∀ j, j < rk → f j = g j) : rAt 30 f (inF RY y rk) = rAt 30 g (inF RY y rk) := by
  rcases inF_ix RY y rk with e | ⟨j, hj, e⟩
  · rw [e, rAt_m1, rAt_m1]
  · rw [e, rAt_nI (by omega) (by omega), rAt_nI (by omega) (by omega)]; exact h j hj
theorem rdV_rel {rk j : Nat} {RY L1 L2 L3 L4 L5 RW RS : Nat → Int32} {t : Int32} (h : relR rk RY L1 L2 L3 L4 L5 RW RS) : rdV RY L1 L2 L3 L4 L5 rk j t = rdV RY (cW RW) (fW RW) (pS RS 100000 1000) (pS RS 100 1000) (pS RS 1 100) rk j t := by
  have e1 := rAt_inF (RY := RY) (y := nI j) h.1 (fun j hj => (h.2 j hj).2.1.1)
  have e2 := rAt_inF (RY := RY) (y := nI j) h.1 (fun j hj => (h.2 j hj).2.1.2.1)
  have e3 := rAt_inF (RY := RY) (y := nI j) h.1 (fun j hj => (h.2 j hj).2.1.2.2.1)
  have e4 := rAt_inF (RY := RY) (y := nI j) h.1 (fun j hj => (h.2 j hj).2.1.2.2.2.1)
  have e5 := rAt_inF (RY := RY) (y := nI j) h.1 (fun j hj => (h.2 j hj).2.1.2.2.2.2)
  unfold rdV capV
  rw [e1, e2, e3, e4, e5]
theorem capV_rel {rk j : Nat} {RY L1 L2 L3 L4 L5 RW RS : Nat → Int32} (h : relR rk RY L1 L2 L3 L4 L5 RW RS) : capV RY L1 L2 rk j = capV RY (cW RW) (fW RW) rk j := rdV_rel (t := 0) h
theorem rel_ruled {rk : Nat} {RY L1 L2 L3 L4 L5 RW RS : Nat → Int32} {x t r1 r2 : Int32} (h : relR rk RY L1 L2 L3 L4 L5 RW RS) (h1 : (∃ j, j < 20 ∧ x = nI j ∧ r1 = rdV RY L1 L2 L3 L4 L5 rk j t) ∨ ((¬ ∃ j, j < 20 ∧ x = nI j) ∧ r1 = -1)) (h2 : (∃ j, j < 20 ∧ x = nI j ∧ r2 = rdV RY (cW RW) (fW RW) (pS RS 100000 1000) (pS RS 100 1000) (pS RS 1 100) rk j t) ∨ ((¬ ∃ j, j < 20 ∧ x = nI j) ∧ r2 = -1)) : r1 = r2 := by
  rcases h1 with ⟨j, a1, a2, a3⟩ | ⟨a1, a2⟩ <;> rcases h2 with ⟨j2, b1, b2, b3⟩ | ⟨b1, b2⟩
  · have : j = j2 := (nI_eq (by omega) (by omega)).mp (a2.symm.trans b2)
    subst this
    rw [a3, b3, rdV_rel h]
  · exact absurd ⟨j, a1, a2⟩ b1
  · exact absurd ⟨j2, b1, b2⟩ a1
  · rw [a2, b2]
theorem i_div1 (s : Int32) : s / 1 = s := by
  refine Int32.toInt_inj.mp ?_
  rw [Int32.toInt_div]
  show (s.toInt.tdiv 1).bmod (2 ^ 32) = s.toInt
  rw [Int.tdiv_one]
  exact Int32.toInt_bmod_size s
theorem rel_rule {rk : Nat} {RY L1 L2 L3 L4 L5 RW RS : Nat → Int32} {x w s : Int32} (h : relR rk RY L1 L2 L3 L4 L5 RW RS) (ho : ruOk rk x w s) :
    relR (rk + 1) (upd RY rk x) (upd L1 rk (w / 1000)) (upd L2 rk (w - w / 1000 * 1000)) (upd L3 rk (s / 100000)) (upd L4 rk (s / 100 - s / 100 / 1000 * 1000)) (upd L5 rk (s - s / 100 * 100)) (upd RW rk w) (upd RS rk s) := by
  obtain ⟨⟨jy, hjy, ey⟩, hw, hs, hk, t1, t2, t3⟩ := ho
  obtain ⟨wn, hwn, rfl⟩ := nI_of hw
  obtain ⟨sn, hsn, rfl⟩ := nI_of (Int32.not_lt.mpr hs)
  have w1 : nI wn / 1000 = nI (wn / 1000) := pk_div (d := 1000) hwn (by omega) (by omega)
  have w2 : nI wn - nI wn / 1000 * 1000 = nI (wn % 1000) := pk_rem (d := 1000) hwn (by omega) (by omega)
  have s1 : nI sn / 100000 = nI (sn / 100000) := pk_div (d := 100000) hsn (by omega) (by omega)
  have s3 : nI sn - nI sn / 100 * 100 = nI (sn % 100) := pk_rem (d := 100) hsn (by omega) (by omega)
  have q1 : wn / 1000 ≤ 400 := by rw [w1] at t1; exact Nat.le_of_not_lt (fun z => t1 (nI_lt (a := 400) z (by omega)))
  have q2 : wn % 1000 ≤ 100 := by rw [w2] at t2; exact Nat.le_of_not_lt (fun z => t2 (nI_lt (a := 100) z (by omega)))
  have q3 : sn / 100000 ≤ 100 := by rw [s1] at t3; exact fx_le_of (b := 100) t3 (by omega) (by omega)
  refine ⟨hk, fun j hj => ?_⟩
  by_cases e : j = rk
  · subst e
    refine ⟨⟨jy, hjy, by rw [pk_us]; exact ey⟩, ⟨?_, ?_, ?_, ?_, ?_⟩, ⟨wn / 1000, q1, by rw [pk_us]; exact w1⟩, ⟨wn % 1000, q2, by rw [pk_us]; exact w2⟩, ⟨sn / 100000, q3, by rw [pk_us]; exact s1⟩, ⟨sn % 100, by omega, by rw [pk_us]; exact s3⟩⟩
    · unfold cW; rw [pk_us, pk_us]
    · unfold fW; rw [pk_us, pk_us]
    · unfold pS; rw [pk_us, pk_us, s1]
      have : nI (sn / 100000) - nI (sn / 100000) / 1000 * 1000 = nI (sn / 100000 % 1000) := pk_rem (d := 1000) (by omega) (by omega) (by omega)
      rw [this, Nat.mod_eq_of_lt (by omega)]
    · unfold pS; rw [pk_us, pk_us]
    · unfold pS; rw [pk_us, pk_us, i_div1]
  · have := h.2 j (by omega)
    unfold cW fW pS at this ⊢
    rw [pk_un e, pk_un e, pk_un e, pk_un e, pk_un e, pk_un e, pk_un e, pk_un e]
    exact this
theorem rel_meter {wk now w y q w2 y2 q2 : Nat} {RD : Nat → Int32} {a1 a2 a3 a4 : Int32} (h : mtC wk now a1 a2 a3 a4 w y q) (hwk : wk ≤ 10) (h2 : mtC wk now a1 a2 a3 a4 w2 y2 q2) : w = w2 ∧ y = y2 ∧ q = q2 := by
  obtain ⟨z1, z2, z3, z4, z5, z6, z7, z8⟩ := h
  obtain ⟨v1, v2, v3, v4, v5, v6, v7, v8⟩ := h2
  exact ⟨(nI_eq (by omega) (by omega)).mp (z5.symm.trans v5), (nI_eq (by omega) (by omega)).mp (z6.symm.trans v6), (nI_eq (by omega) (by omega)).mp (z7.symm.trans v7)⟩
theorem relM_put {wk now w y q : Nat} {RD : Nat → Int32} {a1 a2 a3 a4 : Int32} (h : relM RD) (hm : mtC wk now a1 a2 a3 a4 w y q) : relM (upd RD ((w * 20 + y) * 4 + q) a4) := by
  intro j hj
  by_cases e : j = (w * 20 + y) * 4 + q
  · rw [e, pk_us]
    rcases hm.2.2.2.2.2.2.2 with z | ⟨z1, z2⟩
    · exact Or.inl z
    · obtain ⟨v, hv, ev⟩ := w_in (N := 99) (by omega) z1 z2
      exact Or.inr ⟨v, hv, ev⟩
  · rw [pk_un e]; exact h j hj
