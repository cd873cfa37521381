theorem hmN_rel {st st2 ho ho2 : Nat → Int32} {k : Nat} {b : Int32} (hs : ∀ j, j < k → (st j = 0 ↔ st2 j = 0)) (hh : ∀ j, j < k → ho j = ho2 j) : hmN st ho k b = hmN st2 ho2 k b := by
  unfold hmN
  rw [cntP_congr (hW_rel hs hh)]
theorem hmG_rel {st st2 B0 B1 B2 : Nat → Int32} {k : Nat} {fl : Int32} (hs : ∀ j, j < k → (st j = 0 ↔ st2 j = 0)) : ∀ {fu i : Nat} {ho mv ho2 mv2 gr : Nat → Int32} {la : Int32}, (∀ j, j < k → ho j = ho2 j) → (∀ j, j < k → mv j = mv2 j) → (∀ j, j < k → (hmG st B0 B1 B2 k fl fu i ho mv gr la).1 j = (hmG st2 B0 B1 B2 k fl fu i ho2 mv2 gr la).1 j ∧ (hmG st B0 B1 B2 k fl fu i ho mv gr la).2.1 j = (hmG st2 B0 B1 B2 k fl fu i ho2 mv2 gr la).2.1 j) ∧ (hmG st B0 B1 B2 k fl fu i ho mv gr la).2.2 = (hmG st2 B0 B1 B2 k fl fu i ho2 mv2 gr la).2.2
  | 0, _, _, _, _, _, _, _, h1, h2 => ⟨fun j hj => ⟨h1 j hj, h2 j hj⟩, rfl⟩
  | fu + 1, i, ho, mv, ho2, mv2, gr, la, h1, h2 => by
    unfold hmG
    rw [hmN_rel (b := B1 i) hs h1]
    by_cases q : B2 i < fl
    · rw [if_pos q, if_pos q]; exact ⟨fun j hj => ⟨h1 j hj, h2 j hj⟩, rfl⟩
    · rw [if_neg q, if_neg q]
      by_cases q2 : hmN st2 ho2 k (B1 i) = 0
      · rw [if_pos q2, if_pos q2]; exact hmG_rel hs h1 h2
      · rw [if_neg q2, if_neg q2]
        have z := psI_rel (wf := 0) (to := B0 i) hs (n := hmN st2 ho2 k (B1 i)) h1 h2
        exact hmG_rel hs (fun j hj => (z j hj).1) (fun j hj => (z j hj).2)
theorem hmG_st {st B0 B1 B2 : Nat → Int32} {k wk bk : Nat} {fl : Int32} (hwk : wk ≤ 10) (hb : ∀ i, i < bk → ∃ w, w < wk ∧ B0 i = nI w) : ∀ {fu i : Nat} {ho mv gr : Nat → Int32} {la : Int32}, i + fu ≤ bk → ∀ j, ((hmG st B0 B1 B2 k fl fu i ho mv gr la).1 j = ho j ∨ ((∃ w, w < wk ∧ (hmG st B0 B1 B2 k fl fu i ho mv gr la).1 j = nI w) ∧ st j = 0)) ∧ (k ≤ j → (hmG st B0 B1 B2 k fl fu i ho mv gr la).2.1 j = mv j)
  | 0, _, _, _, _, _, _ => fun j => ⟨Or.inl rfl, fun _ => rfl⟩
  | fu + 1, i, ho, mv, gr, la, hi => fun j => by
    unfold hmG
    by_cases q : B2 i < fl
    · rw [if_pos q]; exact ⟨Or.inl rfl, fun _ => rfl⟩
    · rw [if_neg q]
      by_cases q2 : hmN st ho k (B1 i) = 0
      · rw [if_pos q2]; exact hmG_st hwk hb (by omega) j
      · rw [if_neg q2]
        obtain ⟨w, hw, ew⟩ := hb i (by omega)
        have z := psI_st (st := st) (k := k) (mv := mv) (to := B0 i) (wf := 0) (wt := w + 1) (by rw [ew]; exact nI_1 w) (by omega) (by omega) (by omega) (n := hmN st ho k (B1 i)) (ho := ho) (Nat.min_le_right _ _) j
        have ih := hmG_st (st := st) (B1 := B1) (B2 := B2) (k := k) (fl := fl) hwk hb (fu := fu) (i := i + 1) (ho := (psI st k 0 (B0 i) (hmN st ho k (B1 i)) ho mv).1) (mv := (psI st k 0 (B0 i) (hmN st ho k (B1 i)) ho mv).2) (gr := upd gr i (nI (hmN st ho k (B1 i)))) (la := B2 i) (by omega) j
        refine ⟨?_, fun hk => (ih.2 hk).trans (z.2 hk)⟩
        rcases ih.1 with y | y
        · rcases z.1 with x | x
          · exact Or.inl (y.trans x)
          · exact Or.inr ⟨⟨w, hw, y.trans (x.1.trans ew)⟩, x.2.1⟩
        · exact Or.inr y
theorem payI_at {B0 gr co : Nat → Int32} {pr : Int32} : ∀ {n : Nat} (w : Nat), payI B0 gr pr co n w = co w + shS (fun i => if (B0 i).toNatClampNeg = w then -(gr i * pr) else 0) n
  | 0, w => (Int32.add_zero _).symm
  | n + 1, w => by
    show upd (payI B0 gr pr co n) (B0 n).toNatClampNeg (payI B0 gr pr co n (B0 n).toNatClampNeg + -(gr n * pr)) w = co w + (shS (fun i => if (B0 i).toNatClampNeg = w then -(gr i * pr) else 0) n + (if (B0 n).toNatClampNeg = w then -(gr n * pr) else 0))
    by_cases e : w = (B0 n).toNatClampNeg
    · rw [if_pos e.symm, ← e, pk_us, payI_at w, Int32.add_assoc]
    · rw [if_neg (fun z => e z.symm), pk_un e, payI_at w, Int32.add_zero]
theorem payM_at {bW gt co : Nat → Int32} {pr : Int32} : ∀ {n : Nat} (w : Nat), payM bW gt pr co n w = co w + shS (fun i => if (bW i).toNatClampNeg = w then -(gt i * pr) else 0) n
  | 0, w => (Int32.add_zero _).symm
  | n + 1, w => by
    show upd (payM bW gt pr co n) (bW n).toNatClampNeg (payM bW gt pr co n (bW n).toNatClampNeg - gt n * pr) w = co w + (shS (fun i => if (bW i).toNatClampNeg = w then -(gt i * pr) else 0) n + (if (bW n).toNatClampNeg = w then -(gt n * pr) else 0))
    by_cases e : w = (bW n).toNatClampNeg
    · rw [if_pos e.symm, ← e, pk_us, payM_at w, Int32.sub_eq_add_neg, Int32.add_assoc]
    · rw [if_neg (fun z => e z.symm), pk_un e, payM_at w, Int32.add_zero]
theorem acI_at {gr : Nat → Int32} {pr ac : Int32} : ∀ {n : Nat}, acI gr pr ac n = ac + shS (fun i => gr i * pr) n
  | 0 => (Int32.add_zero _).symm
  | n + 1 => by
    show acI gr pr ac n + gr n * pr = ac + (shS (fun i => gr i * pr) n + gr n * pr)
    rw [acI_at, Int32.add_assoc]
theorem floor_ix {rk : Nat} {RY L1 L2 L3 L4 L5 RW RS : Nat → Int32} {y : Int32} (h : relR rk RY L1 L2 L3 L4 L5 RW RS) : ∃ f, f ≤ 99 ∧ rAt 30 L5 (inF RY y rk) = nI f ∧ rAt 30 (pS RS 1 100) (inF RY y rk) = nI f := by
  obtain ⟨f, hf, e⟩ := inF_at (f := RY) (g := L5) (y := y) (P := fun z => ∃ c, c ≤ 99 ∧ z = nI c) h.1 ⟨0, by omega, rfl⟩ (fun j hj => (h.2 j hj).2.2.2.2.2)
  exact ⟨f, hf, e, (rAt_inF h.1 (fun j hj => (h.2 j hj).2.1.2.2.2.2)).symm.trans e⟩
theorem rel_auction {k wk pj bk bk2 bl2 f : Nat} {fl : Int32} {s : Nat → Nat} {P0 P1 P2 P3 P4 P5 P6 P7 ST HO YO UI PO WE CO E2 B0 B1 B2 B3 bW bM bP GT g1 g5 g6 g7 b3 h0 m1 m5 n0 gt2 : Nat → Int32} {us ca ac ac2 al2 r1 r2 : Int32} (h : relQ k wk pj P0 P1 P2 P3 P4 P5 ST HO YO UI PO WE us ca E2) (hwk : wk ≤ 10) (hok : pOk P0 P1 P6 P7 k) (hB : relB bk wk B0 B1 B2 B3 bW bM bP) (hR : bdR B0 B1 B2 bk bW bM bP s) (hS : ∀ F : Nat → Int32, shS (fun i => F (s i)) bk = shS F bk) (hfl : fl = nI f)
    (q1 : (¬ cntP (hW P0 P1 0) k = 0 ∧ r1 = hmP P0 k fl (hmA P0 B0 B1 B2 B3 P1 P5 k bk fl) ∧ pOk P0 g1 g6 g7 k ∧ g1 = (hmA P0 B0 B1 B2 B3 P1 P5 k bk fl).1 ∧ g5 = (hmA P0 B0 B1 B2 B3 P1 P5 k bk fl).2.1 ∧ bk2 = 0 ∧ h0 = payI B0 (hmA P0 B0 B1 B2 B3 P1 P5 k bk fl).2.2.1 (hmP P0 k fl (hmA P0 B0 B1 B2 B3 P1 P5 k bk fl)) CO bk ∧ ac2 = acI (hmA P0 B0 B1 B2 B3 P1 P5 k bk fl).2.2.1 (hmP P0 k fl (hmA P0 B0 B1 B2 B3 P1 P5 k bk fl)) ac bk) ∨ (cntP (hW P0 P1 0) k = 0 ∧ r1 = -1 ∧ g1 = P1 ∧ g5 = P5 ∧ g6 = P6 ∧ g7 = P7 ∧ b3 = B3 ∧ bk2 = bk ∧ h0 = CO ∧ ac2 = ac))
    (q2 : (¬ cntP (hW ST HO 0) k = 0 ∧ r2 = hmP ST k (nI f) (hmA ST B0 B1 B2 B3 HO WE k bk (nI f)) ∧ m1 = (hmA ST B0 B1 B2 B3 HO WE k bk (nI f)).1 ∧ m5 = (hmA ST B0 B1 B2 B3 HO WE k bk (nI f)).2.1 ∧ bl2 = 0 ∧ (∀ i, i < bk → gt2 (s i) = (hmA ST B0 B1 B2 B3 HO WE k bk (nI f)).2.2.1 i) ∧ n0 = payM bW gt2 r2 CO bk ∧ al2 = acI gt2 r2 ac bk) ∨ (cntP (hW ST HO 0) k = 0 ∧ r2 = -1 ∧ n0 = CO ∧ m1 = HO ∧ m5 = WE ∧ gt2 = GT ∧ bl2 = bk ∧ al2 = ac)) :
    r1 = r2 ∧ bl2 = bk2 ∧ h0 = n0 ∧ ac2 = al2 ∧ pOk P0 g1 g6 g7 k ∧ relB bk2 wk B0 B1 B2 b3 bW bM bP ∧ relQ k wk pj P0 g1 P2 P3 P4 g5 ST m1 YO UI PO m5 us ca E2 := by
  subst hfl
  have hs : ∀ j, j < k → (P0 j = 0 ↔ ST j = 0) := fun j hj => stR_0 (h.1 j hj).1
  have hc : cntP (hW P0 P1 0) k = cntP (hW ST HO 0) k := relQ_cnt h
  have hG := hmG_rel (B0 := B0) (B1 := B1) (B2 := B2) (fl := nI f) hs (fu := bk) (i := 0) (ho := P1) (mv := P5) (ho2 := HO) (mv2 := WE) (gr := B3) (la := nI f) (fun j hj => (h.1 j hj).2.1) (fun j hj => (h.1 j hj).2.2.2.2.2)
  have hT := hmG_st (st := ST) (B0 := B0) (B1 := B1) (B2 := B2) (k := k) (fl := nI f) hwk hB.2.2.2 (fu := bk) (i := 0) (ho := HO) (mv := WE) (gr := B3) (la := nI f) (by omega)
  change (∀ j, j < k → (hmA P0 B0 B1 B2 B3 P1 P5 k bk (nI f)).1 j = (hmA ST B0 B1 B2 B3 HO WE k bk (nI f)).1 j ∧ (hmA P0 B0 B1 B2 B3 P1 P5 k bk (nI f)).2.1 j = (hmA ST B0 B1 B2 B3 HO WE k bk (nI f)).2.1 j) ∧ (hmA P0 B0 B1 B2 B3 P1 P5 k bk (nI f)).2.2 = (hmA ST B0 B1 B2 B3 HO WE k bk (nI f)).2.2 at hG
  change ∀ j, ((hmA ST B0 B1 B2 B3 HO WE k bk (nI f)).1 j = HO j ∨ ((∃ w, w < wk ∧ (hmA ST B0 B1 B2 B3 HO WE k bk (nI f)).1 j = nI w) ∧ ST j = 0)) ∧ (k ≤ j → (hmA ST B0 B1 B2 B3 HO WE k bk (nI f)).2.1 j = WE j) at hT
  have hP : hmP P0 k (nI f) (hmA P0 B0 B1 B2 B3 P1 P5 k bk (nI f)) = hmP ST k (nI f) (hmA ST B0 B1 B2 B3 HO WE k bk (nI f)) := by
    unfold hmP
    rw [cntP_congr (hW_rel hs (fun j hj => (hG.1 j hj).1)), hG.2]
  rcases q1 with ⟨a, e1, e2, e3, e4, e5, e6, e7⟩ | ⟨a, e1, e3, e4, e8, e9, e10, e5, e6, e7⟩ <;> rcases q2 with ⟨b, f1, f3, f4, f5, fg, f6, f7⟩ | ⟨b, f1, f6, f3, f4, fg, f5, f7⟩
  · have hr : r1 = r2 := by rw [e1, f1, hP]
    have hgr : ∀ i, i < bk → (hmA P0 B0 B1 B2 B3 P1 P5 k bk (nI f)).2.2.1 i = gt2 (s i) := fun i hi => by rw [fg i hi, hG.2]
    rw [← e1] at e6 e7
    refine ⟨hr, by rw [e5, f5], ?_, ?_, e2, ?_, ?_⟩
    · rw [e6, f6, hr]
      funext w
      rw [payI_at, payM_at, ← hS (fun x => if (bW x).toNatClampNeg = w then -(gt2 x * r2) else 0)]
      refine congrArg (CO w + ·) (shS_congr (fun i hi => ?_))
      show _ = if (bW (s i)).toNatClampNeg = w then -(gt2 (s i) * r2) else 0
      rw [hgr i hi, (hR.1 i hi).2.1]
    · rw [e7, f7, hr, acI_at, acI_at, ← hS (fun x => gt2 x * r2)]
      refine congrArg (ac + ·) (shS_congr (fun i hi => ?_))
      show _ = gt2 (s i) * r2
      rw [hgr i hi]
    · rw [e5]
      exact ⟨by omega, ⟨s, ⟨fun i hi => absurd hi (by omega), fun i hi => absurd hi (by omega), fun i hi => absurd hi (by omega), fun i hi => absurd hi (by omega), fun i hi => absurd hi (by omega), fun i j _ hj => absurd hj (by omega)⟩, fun F => rfl⟩, fun i hi => absurd hi (by omega), fun i hi => absurd hi (by omega)⟩
    · refine relQ_move h (fun j hj => ?_) (fun j hj => ?_) (fun j hj => ?_)
      · rw [e3, e4, f3, f4]; exact hG.1 j hj
      · rw [f4]; exact (hT j).2 hj
      · rw [f3]; exact (hT j).1
  · exact absurd (hc.trans b) a
  · exact absurd (hc.symm.trans a) b
  · refine ⟨by rw [e1, f1], by rw [e5, f5], by rw [e6, f6], by rw [e7, f7], by rw [e3, e8, e9]; exact hok, by rw [e5, e10]; exact hB, ?_⟩
    rw [e3, e4, f3, f4]; exact h
