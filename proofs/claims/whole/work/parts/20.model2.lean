theorem pl4 (w y q : Nat) : 4 * (20 * nI w + nI y) + nI q = nI ((w * 20 + y) * 4 + q) := by
  show nI 4 * (nI 20 * nI w + nI y) + nI q = _
  rw [pk_mul, nI_add, pk_mul, nI_add]
  exact congrArg nI (by omega)
theorem mt_y1 {now : Nat} {a : Int32} (c : ¬ (20 : Int32) ≤ nI now) (hn : now ≤ 20) (h1 : ¬ a < 0) (h2 : ¬ nI now < a) : ∃ y, y < 20 ∧ y ≤ now ∧ a = nI y := by
  obtain ⟨j, hj, e⟩ := w_in (N := now) (by omega) h1 h2
  have : now < 20 := fx_lt_of (b := 20) c (by omega)
  exact ⟨j, by omega, by omega, e⟩
theorem mt_y2 {now : Nat} {a : Int32} (c : (20 : Int32) ≤ nI now) (hn : now ≤ 20) (h1 : ¬ a < 0) (h2 : ¬ 19 < a) : ∃ y, y < 20 ∧ y ≤ now ∧ a = nI y := by
  obtain ⟨j, hj, e⟩ := w_in (N := 19) (by omega) h1 h2
  have : 20 ≤ now := fx_le_of (a := 20) c (by omega) (by omega)
  exact ⟨j, by omega, by omega, e⟩
theorem mt_n1 {now : Nat} {a : Int32} (hn : now ≤ 20) (h : a < 0 ∨ nI now < a) : ¬ ∃ y, y < 20 ∧ y ≤ now ∧ a = nI y := fun ⟨y, _, h2, h3⟩ => w_out (N := now) (by omega) h ⟨y, by omega, h3⟩
theorem mt_n2 {now : Nat} {a : Int32} (h : a < 0 ∨ 19 < a) : ¬ ∃ y, y < 20 ∧ y ≤ now ∧ a = nI y := fun ⟨y, h1, _, h3⟩ => w_out (N := 19) (by omega) h ⟨y, by omega, h3⟩
theorem rd_in {a : Int32} (h1 : ¬ a < -1) (h2 : ¬ 99 < a) : a = -1 ∨ (¬ a < 0 ∧ ¬ 99 < a) := by
  by_cases h : a < 0
  · refine Or.inl (Int32.toInt_inj.mp ?_)
    have q1 := Int32.lt_iff_toInt_lt.mp h
    have q2 : ¬ a.toInt < (-1 : Int32).toInt := fun q => h1 (Int32.lt_iff_toInt_lt.mpr q)
    have e1 : (-1 : Int32).toInt = -1 := by decide
    have e0 : (0 : Int32).toInt = 0 := by decide
    omega
  · exact Or.inr ⟨h, h2⟩
theorem rd_out {a : Int32} (h : a < -1 ∨ 99 < a) : ¬ (a = -1 ∨ (¬ a < 0 ∧ ¬ 99 < a)) := by
  rintro (e | ⟨e1, e2⟩)
  · subst e; rcases h with h | h <;> exact absurd h (by decide)
  · rcases h with h | h
    · exact e1 (Int32.lt_of_lt_of_le h (by decide))
    · exact e2 h
def mxI (a b : Int32) : Int32 := if a < b then b else a
theorem mxI_toInt (a b : Int32) : (mxI a b).toInt = max a.toInt b.toInt := by
  unfold mxI
  by_cases h : a < b
  · rw [if_pos h]; have := Int32.lt_iff_toInt_lt.mp h; omega
  · rw [if_neg h]; have : ¬ a.toInt < b.toInt := fun q => h (Int32.lt_iff_toInt_lt.mpr q); omega
def grS (f : Nat → Int32) (b : Nat) (t : Int32) : Nat → Int32
  | 0 => t
  | q + 1 => mxI (grS f b t q) (f (b + q))
theorem grS_q (f : Nat → Int32) (b : Nat) : ∀ q, grS f b (-1) q = grQ f b q
  | 0 => rfl
  | q + 1 => by show mxI (grS f b (-1) q) (f (b + q)) = _; rw [grS_q f b q]; rfl
theorem grQ_ge (f : Nat → Int32) (b : Nat) : ∀ q, -1 ≤ (grQ f b q).toInt
  | 0 => by show -1 ≤ (-1 : Int32).toInt; decide
  | q + 1 => by
    have h := grQ_ge f b q
    have e : grQ f b (q + 1) = mxI (grQ f b q) (f (b + q)) := rfl
    rw [e, mxI_toInt]; omega
theorem grS_mx (f : Nat → Int32) (b : Nat) {t : Int32} (ht : -1 ≤ t.toInt) : ∀ q, grS f b t q = mxI t (grQ f b q)
  | 0 => by
    show t = mxI t (-1)
    refine Int32.toInt_inj.mp ?_
    rw [mxI_toInt]
    have : (-1 : Int32).toInt = -1 := by decide
    omega
  | q + 1 => by
    show mxI (grS f b t q) (f (b + q)) = mxI t (mxI (grQ f b q) (f (b + q)))
    rw [grS_mx f b ht q]
    refine Int32.toInt_inj.mp ?_
    rw [mxI_toInt, mxI_toInt, mxI_toInt, mxI_toInt]
    omega
theorem mxI_comm (a b : Int32) : mxI a b = mxI b a := Int32.toInt_inj.mp (by rw [mxI_toInt, mxI_toInt]; omega)
def gr2 (f : Nat → Int32) (w y0 : Nat) : Nat → Int32
  | 0 => -1
  | n + 1 => grS f ((w * 20 + (y0 + n)) * 4) (gr2 f w y0 n) 4
theorem grV_nI (f : Nat → Int32) (w : Nat) {y : Nat} (hy : y < 2 ^ 31) : grV f w (nI y) = grQ f ((w * 20 + y) * 4) 4 := by
  unfold grV
  rw [if_neg (nI_pos hy), nI_clamp hy]
theorem gr2_0 (f : Nat → Int32) (w : Nat) : gr2 f w 0 1 = gapT f w 0 := by
  show grS f ((w * 20 + (0 + 0)) * 4) (-1) 4 = mxI (grV f w (nI 0)) (grV f w (nI 0 - 1))
  rw [grS_q, grV_nI f w (by omega), show grV f w (nI 0 - 1) = -1 from if_pos (by decide)]
  refine Int32.toInt_inj.mp ?_
  rw [mxI_toInt]
  have := grQ_ge f ((w * 20 + 0) * 4) 4
  have e : (-1 : Int32).toInt = -1 := by decide
  show (grQ f ((w * 20 + 0) * 4) 4).toInt = _
  omega
theorem gr2_1 (f : Nat → Int32) (w : Nat) {y : Nat} (h0 : 0 < y) (hy : y < 2 ^ 31) : gr2 f w (y - 1) 2 = gapT f w y := by
  show grS f ((w * 20 + (y - 1 + 1)) * 4) (grS f ((w * 20 + (y - 1 + 0)) * 4) (-1) 4) 4 = mxI (grV f w (nI y)) (grV f w (nI y - 1))
  rw [grS_q, grS_mx _ _ (grQ_ge _ _ _), fx_m1 h0, grV_nI f w hy, grV_nI f w (by omega), mxI_comm, show y - 1 + 1 = y by omega]
  rfl
theorem grQ_ix {f : Nat → Int32} {b : Nat} : ∀ {q : Nat}, (∀ j, j < q → f (b + j) = -1 ∨ ∃ v, v < 100 ∧ f (b + j) = nI v) → grQ f b q = -1 ∨ ∃ v, v < 100 ∧ grQ f b q = nI v
  | 0, _ => Or.inl rfl
  | q + 1, h => by
    have ih := grQ_ix (f := f) (b := b) (q := q) (fun j hj => h j (by omega))
    show (mxI (grQ f b q) (f (b + q)) = -1 ∨ ∃ v, v < 100 ∧ mxI (grQ f b q) (f (b + q)) = nI v)
    unfold mxI
    split
    · exact h q (by omega)
    · exact ih
theorem gapT_ix {f : Nat → Int32} {w y : Nat} (hw : w < 10) (hy : y < 20) (h : ∀ j, j < 800 → f j = -1 ∨ ∃ v, v < 100 ∧ f j = nI v) : gapT f w y = -1 ∨ ∃ v, v < 100 ∧ gapT f w y = nI v := by
  have a1 : ∀ z, z < 20 → (grQ f ((w * 20 + z) * 4) 4 = -1 ∨ ∃ v, v < 100 ∧ grQ f ((w * 20 + z) * 4) 4 = nI v) := fun z hz => grQ_ix (fun j hj => h _ (by omega))
  have a2 : grV f w (nI y - 1) = -1 ∨ ∃ v, v < 100 ∧ grV f w (nI y - 1) = nI v := by
    rcases Nat.eq_zero_or_pos y with e | e
    · subst e; exact Or.inl (if_pos (by decide))
    · rw [fx_m1 e, grV_nI f w (by omega)]; exact a1 _ (by omega)
  have a3 := a1 y hy
  rw [← grV_nI f w (show y < 2 ^ 31 by omega)] at a3
  unfold gapT
  split
  · exact a2
  · exact a3
theorem gp_a {f : Nat → Int32} {w y : Nat} (h : gapT f w y = -1) : 10 = gapV f w y := (if_pos h).symm
theorem gp_x {v : Nat} (hv : v < 100) : (nI v * 110 + 99) / 100 = nI ((v * 110 + 99) / 100) := by
  show (nI v * nI 110 + nI 99) / nI 100 = _
  rw [pk_mul, nI_add]
  exact pk_div (by omega) (by omega) (by omega)
theorem gp_b {f : Nat → Int32} {w y : Nat} (hx : gapT f w y = -1 ∨ ∃ v, v < 100 ∧ gapT f w y = nI v) (h : ¬ gapT f w y = -1) (h0 : ¬ (gapT f w y * 110 + 99) / 100 = 0) : (gapT f w y * 110 + 99) / 100 = gapV f w y := by
  obtain ⟨v, hv, e⟩ := hx.resolve_left h
  unfold gapV
  rw [if_neg h]
  rw [e, gp_x hv] at h0 ⊢
  by_cases q : 1 < nI ((v * 110 + 99) / 100)
  · rw [if_pos q]
  · rw [if_neg q]
    have q1 : ¬ 1 < (v * 110 + 99) / 100 := fun z => q (nI_lt (a := 1) z (by omega))
    have q2 : ¬ (v * 110 + 99) / 100 = 0 := fun z => h0 (by rw [z]; rfl)
    rw [show (v * 110 + 99) / 100 = 1 by omega]
    rfl
theorem gp_c {f : Nat → Int32} {w y : Nat} (h : ¬ gapT f w y = -1) (h0 : (gapT f w y * 110 + 99) / 100 = 0) : 1 = gapV f w y := by
  unfold gapV
  rw [if_neg h, h0]
  exact (if_neg (by decide)).symm
set_option maxHeartbeats 4000000 in
set_option maxRecDepth 100000 in
theorem k_X9_meter (l : Launch) (D : va_G) (cI cZ : ClassId) (h : Nat) (zcoins : Nat) (zdebt : Nat) (zfines : Nat) (zreading : Nat) (zruleYear : Nat) (zruleWhat : Nat) (zruleShare : Nat) (zstate : Nat) (zholder : Nat) (zyearOf : Nat) (zusedIn : Nat) (zprojectOf : Nat) (zwent : Nat) (zbidWorks : Nat) (zbidMany : Nat) (zbidPrice : Nat) (zisFalse : Nat) (zcutMany : Nat) (ztonnes : Nat) (zcosts : Nat) (zgiven : Nat) (zcutOff : Nat) (zgot : Nat) (zcutsOf : Nat) (now : Nat) (wk : Nat) (rk : Nat) (k : Nat) (ii : Int32) (bk : Nat) (ac : Int32) (pj : Nat) (sm : Int32) (mg : Int32) (RD : Nat → Int32) (a1 : Int32) (a2 : Int32) (a3 : Int32) (a4 : Int32) (hwk : wk ≤ 10) (hnow : now ≤ 20) : fx_CI l D cI cZ yX9_meter wsX9_meter ({ frames := 2, cells := 0, slots := 0, locals := 43 }) [.ref h, .int a1, .int a2, .int a3, .int a4] [(h, .inr (9, [.int (nI now), .int (nI wk), .ref zcoins, .ref zdebt, .ref zfines, .ref zreading, .int (nI rk), .ref zruleYear, .ref zruleWhat, .ref zruleShare, .int (nI k), .ref zstate, .ref zholder, .ref zyearOf, .ref zusedIn, .ref zprojectOf, .ref zwent, .int ii, .int (nI bk), .ref zbidWorks, .ref zbidMany, .ref zbidPrice, .int ac, .int (nI pj), .ref zisFalse, .ref zcutMany, .ref ztonnes, .ref zcosts, .ref zgiven, .ref zcutOff, .ref zgot, .ref zcutsOf, .int sm, .int mg])), (zreading, .inl (cI, 800, .inl RD))] (fun (u : (Nat → Int32)) => [(h, .inr (9, [.int (nI now), .int (nI wk), .ref zcoins, .ref zdebt, .ref zfines, .ref zreading, .int (nI rk), .ref zruleYear, .ref zruleWhat, .ref zruleShare, .int (nI k), .ref zstate, .ref zholder, .ref zyearOf, .ref zusedIn, .ref zprojectOf, .ref zwent, .int ii, .int (nI bk), .ref zbidWorks, .ref zbidMany, .ref zbidPrice, .int ac, .int (nI pj), .ref zisFalse, .ref zcutMany, .ref ztonnes, .ref zcosts, .ref zgiven, .ref zcutOff, .ref zgot, .ref zcutsOf, .int sm, .int mg])), (zreading, .inl (cI, 800, .inl u))]) (fun (r : Int32) (u : (Nat → Int32)) => (∃ w y q, mtC wk now a1 a2 a3 a4 w y q ∧ r = 1 ∧ u = upd RD ((w * 20 + y) * 4 + q) a4) ∨ ((∀ w y q, ¬ mtC wk now a1 a2 a3 a4 w y q) ∧ r = 0 ∧ u = RD)) := by
  refine fx_CI.of (ws' := (wsX9_meter).tail) cX9_meter 5 (by decide) rfl (Nat.le_of_ble_eq_true rfl) ?_
  intro zp ze zs zm za zb zt zc zA ls zQ hQ hC hr hlk hA hH hl
  have zx := hC.1.1
  have zy := hC.1.2.1
  have hl : lv_has ls 5 [(0, .ref h), (1, .int a1), (2, .int a2), (3, .int a3), (4, .int a4)] := hl
  refine lv_aload_n zx zy dX9_meter_0 rfl (lv_at hl 0 rfl) ?_
  refine lv_iload_n zx zy dX9_meter_1 rfl (lv_at hl 1 rfl) ?_
  refine fx_cVi (n := 1) (As := [.int a1]) (b := h) (rest := []) (fun (u : Unit) => [(h, .inr (9, [.int (nI now), .int (nI wk), .ref zcoins, .ref zdebt, .ref zfines, .ref zreading, .int (nI rk), .ref zruleYear, .ref zruleWhat, .ref zruleShare, .int (nI k), .ref zstate, .ref zholder, .ref zyearOf, .ref zusedIn, .ref zprojectOf, .ref zwent, .int ii, .int (nI bk), .ref zbidWorks, .ref zbidMany, .ref zbidPrice, .int ac, .int (nI pj), .ref zisFalse, .ref zcutMany, .ref ztonnes, .ref zcosts, .ref zgiven, .ref zcutOff, .ref zgot, .ref zcutsOf, .int sm, .int mg])), (zreading, .inl (cI, 800, .inl RD))]) hC hA hH (k_X9_isWorks l D cI cZ h zcoins zdebt zfines zreading zruleYear zruleWhat zruleShare zstate zholder zyearOf zusedIn zprojectOf zwent zbidWorks zbidMany zbidPrice zisFalse zcutMany ztonnes zcosts zgiven zcutOff zgot zcutsOf now wk rk k ii bk ac pj sm mg a1 (by first | assumption | omega)) [0] [1] [1, 0] [(zreading, .inl (cI, 800, .inl RD))] rfl rfl (by decide) (by decide) (fun _ => rfl) rfl gX9_meter_X9_isWorks (by decide +kernel) ⟨Nat.le_of_ble_eq_true rfl, Nat.le_of_ble_eq_true rfl⟩ 0 rfl rfl rfl rfl rfl hl.1 (Nat.le_of_ble_eq_true rfl) ⟨Nat.le_of_ble_eq_true rfl, Nat.le_of_ble_eq_true rfl⟩ dX9_meter_2 (fun r1 u H locs hw2 hH => ?_)
  rcases hw2 with ⟨⟨j2, hj2, rfl⟩, rfl⟩ | ⟨hg2, rfl⟩
  · skip
    have hH := (hH : fx_H zA zs.heap H locs D [(h, .inr (9, [.int (nI now), .int (nI wk), .ref zcoins, .ref zdebt, .ref zfines, .ref zreading, .int (nI rk), .ref zruleYear, .ref zruleWhat, .ref zruleShare, .int (nI k), .ref zstate, .ref zholder, .ref zyearOf, .ref zusedIn, .ref zprojectOf, .ref zwent, .int ii, .int (nI bk), .ref zbidWorks, .ref zbidMany, .ref zbidPrice, .int ac, .int (nI pj), .ref zisFalse, .ref zcutMany, .ref ztonnes, .ref zcosts, .ref zgiven, .ref zcutOff, .ref zgot, .ref zcutsOf, .int sm, .int mg])), (zreading, .inl (cI, 800, .inl RD))])
    have hl := (hl : lv_has ls 5 [(0, .ref h), (1, .int (nI j2)), (2, .int a2), (3, .int a3), (4, .int a4)])
    refine lv_if_eq (tgt := 54) zx zy dX9_meter_5 (by decide) (fun c5 => ?_) (fun c5 => ?_)
    · exact absurd c5 (by decide)
    · skip
      refine lv_iload_n zx zy dX9_meter_8 rfl (lv_at hl 2 rfl) ?_
      refine lv_iconst (v := 0) zx zy dX9_meter_9 (by decide) ?_
      refine lv_aload_n zx zy dX9_meter_10 rfl (lv_at hl 0 rfl) ?_
      refine fx_get (C := RX9) (T := TX9) (N := 34) hC (fun _ h => List.mem_cons_of_mem _ (List.mem_append_right _ h)) hH 0 rfl rfl 0 (by decide) (by decide +kernel) rfl dX9_meter_11 ?_
      refine lv_bipush (v := 20) zx zy dX9_meter_14 (by decide) ?_
      refine lv_icmp_ge (tgt := 26) zx zy dX9_meter_16 (by decide) (fun c16 => ?_) (fun c16 => ?_)
      · skip
        refine lv_bipush (v := 19) zx zy dX9_meter_26 (by decide) ?_
        refine fx_cSi (n := 3) (As := [.int a2, .int 0, .int 19]) (rest := []) hC hA hH (k_X9_in l D cI cZ a2 0 19) ⟨rfl, rfl⟩ rfl gX9_meter_X9_in (by decide +kernel) ⟨Nat.le_of_ble_eq_true rfl, Nat.le_of_ble_eq_true rfl⟩ rfl rfl hl.1 (Nat.le_of_ble_eq_true rfl) ⟨(Nat.le_of_ble_eq_true rfl), (Nat.le_of_ble_eq_true rfl)⟩ dX9_meter_28 (fun r2 H locs hw28 hH => ?_)
        rcases hw28 with ⟨hg28, rfl⟩ | ⟨hg28, rfl⟩
        · skip
          have hH := (hH : fx_H zA zs.heap H locs D [(h, .inr (9, [.int (nI now), .int (nI wk), .ref zcoins, .ref zdebt, .ref zfines, .ref zreading, .int (nI rk), .ref zruleYear, .ref zruleWhat, .ref zruleShare, .int (nI k), .ref zstate, .ref zholder, .ref zyearOf, .ref zusedIn, .ref zprojectOf, .ref zwent, .int ii, .int (nI bk), .ref zbidWorks, .ref zbidMany, .ref zbidPrice, .int ac, .int (nI pj), .ref zisFalse, .ref zcutMany, .ref ztonnes, .ref zcosts, .ref zgiven, .ref zcutOff, .ref zgot, .ref zcutsOf, .int sm, .int mg])), (zreading, .inl (cI, 800, .inl RD))])
          obtain ⟨q28, hq28, hq28b, rfl⟩ : ∃ y, y < 20 ∧ y ≤ now ∧ a2 = nI y := by first | exact mt_y1 c16 hnow hg28.1 hg28.2 | exact mt_y2 c16 hnow hg28.1 hg28.2
          have hl := (hl : lv_has ls 5 [(0, .ref h), (1, .int (nI j2)), (2, .int (nI q28)), (3, .int a3), (4, .int a4)])
          refine lv_if_eq (tgt := 54) zx zy dX9_meter_31 (by decide) (fun c31 => ?_) (fun c31 => ?_)
          · exact absurd c31 (by decide)
          · skip
            refine lv_iload_n zx zy dX9_meter_34 rfl (lv_at hl 3 rfl) ?_
            refine lv_iconst (v := 0) zx zy dX9_meter_35 (by decide) ?_
            refine lv_iconst (v := 3) zx zy dX9_meter_36 (by decide) ?_
            refine fx_cSi (n := 3) (As := [.int a3, .int 0, .int 3]) (rest := []) hC hA hH (k_X9_in l D cI cZ a3 0 3) ⟨rfl, rfl⟩ rfl gX9_meter_X9_in (by decide +kernel) ⟨Nat.le_of_ble_eq_true rfl, Nat.le_of_ble_eq_true rfl⟩ rfl rfl hl.1 (Nat.le_of_ble_eq_true rfl) ⟨(Nat.le_of_ble_eq_true rfl), (Nat.le_of_ble_eq_true rfl)⟩ dX9_meter_37 (fun r3 H locs hw37 hH => ?_)
            rcases hw37 with ⟨hg37, rfl⟩ | ⟨hg37, rfl⟩
            · skip
              have hH := (hH : fx_H zA zs.heap H locs D [(h, .inr (9, [.int (nI now), .int (nI wk), .ref zcoins, .ref zdebt, .ref zfines, .ref zreading, .int (nI rk), .ref zruleYear, .ref zruleWhat, .ref zruleShare, .int (nI k), .ref zstate, .ref zholder, .ref zyearOf, .ref zusedIn, .ref zprojectOf, .ref zwent, .int ii, .int (nI bk), .ref zbidWorks, .ref zbidMany, .ref zbidPrice, .int ac, .int (nI pj), .ref zisFalse, .ref zcutMany, .ref ztonnes, .ref zcosts, .ref zgiven, .ref zcutOff, .ref zgot, .ref zcutsOf, .int sm, .int mg])), (zreading, .inl (cI, 800, .inl RD))])
              obtain ⟨q37, hq37, rfl⟩ := w_in (N := 3) (by omega) hg37.1 hg37.2
              have hl := (hl : lv_has ls 5 [(0, .ref h), (1, .int (nI j2)), (2, .int (nI q28)), (3, .int (nI q37)), (4, .int a4)])
              refine lv_if_eq (tgt := 54) zx zy dX9_meter_40 (by decide) (fun c40 => ?_) (fun c40 => ?_)
              · exact absurd c40 (by decide)
              · skip
                refine lv_iload zx zy dX9_meter_43 (lv_at hl 4 rfl) ?_
                refine lv_iconst (v := (-1)) zx zy dX9_meter_45 (by decide) ?_
                refine lv_bipush (v := 99) zx zy dX9_meter_46 (by decide) ?_
                refine fx_cSi (n := 3) (As := [.int a4, .int (-1), .int 99]) (rest := []) hC hA hH (k_X9_in l D cI cZ a4 (-1) 99) ⟨rfl, rfl⟩ rfl gX9_meter_X9_in (by decide +kernel) ⟨Nat.le_of_ble_eq_true rfl, Nat.le_of_ble_eq_true rfl⟩ rfl rfl hl.1 (Nat.le_of_ble_eq_true rfl) ⟨(Nat.le_of_ble_eq_true rfl), (Nat.le_of_ble_eq_true rfl)⟩ dX9_meter_48 (fun r4 H locs hw48 hH => ?_)
                rcases hw48 with ⟨hg48, rfl⟩ | ⟨hg48, rfl⟩
                · skip
                  have hH := (hH : fx_H zA zs.heap H locs D [(h, .inr (9, [.int (nI now), .int (nI wk), .ref zcoins, .ref zdebt, .ref zfines, .ref zreading, .int (nI rk), .ref zruleYear, .ref zruleWhat, .ref zruleShare, .int (nI k), .ref zstate, .ref zholder, .ref zyearOf, .ref zusedIn, .ref zprojectOf, .ref zwent, .int ii, .int (nI bk), .ref zbidWorks, .ref zbidMany, .ref zbidPrice, .int ac, .int (nI pj), .ref zisFalse, .ref zcutMany, .ref ztonnes, .ref zcosts, .ref zgiven, .ref zcutOff, .ref zgot, .ref zcutsOf, .int sm, .int mg])), (zreading, .inl (cI, 800, .inl RD))])
                  refine lv_if_ne (tgt := 56) zx zy dX9_meter_51 (by decide) (fun c51 => ?_) (fun c51 => ?_)
                  · skip
                    refine lv_aload_n zx zy dX9_meter_56 rfl (lv_at hl 0 rfl) ?_
                    refine fx_get (C := RX9) (T := TX9) (N := 34) hC (fun _ h => List.mem_cons_of_mem _ (List.mem_append_right _ h)) hH 0 rfl rfl 5 (by decide) (by decide +kernel) rfl dX9_meter_57 ?_
                    refine lv_iconst (v := 4) zx zy dX9_meter_60 (by decide) ?_
                    refine lv_bipush (v := 20) zx zy dX9_meter_61 (by decide) ?_
                    refine lv_iload_n zx zy dX9_meter_63 rfl (lv_at hl 1 rfl) ?_
                    refine lv_imul zx zy dX9_meter_64 ?_
                    refine lv_iload_n zx zy dX9_meter_65 rfl (lv_at hl 2 rfl) ?_
                    refine lv_iadd zx zy dX9_meter_66 ?_
                    refine lv_imul zx zy dX9_meter_67 ?_
                    refine lv_iload_n zx zy dX9_meter_68 rfl (lv_at hl 3 rfl) ?_
                    refine lv_iadd zx zy dX9_meter_69 ?_
                    refine lv_topi (fun v5 ev5 => ?_)
                    obtain rfl : v5 = nI ((j2 * 20 + q28) * 4 + q37) := ev5.trans (pl4 j2 q28 q37)
                    refine lv_iload zx zy dX9_meter_70 (lv_at hl 4 rfl) ?_
                    refine fx_ist (ws2 := [(h, .inr (9, [.int (nI now), .int (nI wk), .ref zcoins, .ref zdebt, .ref zfines, .ref zreading, .int (nI rk), .ref zruleYear, .ref zruleWhat, .ref zruleShare, .int (nI k), .ref zstate, .ref zholder, .ref zyearOf, .ref zusedIn, .ref zprojectOf, .ref zwent, .int ii, .int (nI bk), .ref zbidWorks, .ref zbidMany, .ref zbidPrice, .int ac, .int (nI pj), .ref zisFalse, .ref zcutMany, .ref ztonnes, .ref zcosts, .ref zgiven, .ref zcutOff, .ref zgot, .ref zcutsOf, .int sm, .int mg])), (zreading, .inl (cI, 800, .inl (upd RD (nI ((j2 * 20 + q28) * 4 + q37)).toNatClampNeg a4)))]) hC hH 1 rfl (vp_in_nI (by omega) (by omega)) rfl dX9_meter_72 (fun H locs hH => ?_)
                    rw [show (upd RD (nI ((j2 * 20 + q28) * 4 + q37)).toNatClampNeg a4 : Nat → Int32) = upd RD ((j2 * 20 + q28) * 4 + q37) a4 from (by rw [nI_clamp (by omega)])] at hH
                    refine lv_iconst (v := 1) zx zy dX9_meter_73 (by decide) ?_
                    exact fx_iret (v := 1) hQ hC hr hlk hH dX9_meter_74 rfl (Nat.le_of_ble_eq_true rfl) (Nat.le_of_ble_eq_true rfl) (upd RD ((j2 * 20 + q28) * 4 + q37) a4) rfl (Or.inl ⟨j2, q28, q37, ⟨hj2, hq28, hq28b, hq37, rfl, rfl, rfl, rd_in hg48.1 hg48.2⟩, rfl, rfl⟩)
                  · exact absurd c51 (by decide)
                · skip
                  have hH := (hH : fx_H zA zs.heap H locs D [(h, .inr (9, [.int (nI now), .int (nI wk), .ref zcoins, .ref zdebt, .ref zfines, .ref zreading, .int (nI rk), .ref zruleYear, .ref zruleWhat, .ref zruleShare, .int (nI k), .ref zstate, .ref zholder, .ref zyearOf, .ref zusedIn, .ref zprojectOf, .ref zwent, .int ii, .int (nI bk), .ref zbidWorks, .ref zbidMany, .ref zbidPrice, .int ac, .int (nI pj), .ref zisFalse, .ref zcutMany, .ref ztonnes, .ref zcosts, .ref zgiven, .ref zcutOff, .ref zgot, .ref zcutsOf, .int sm, .int mg])), (zreading, .inl (cI, 800, .inl RD))])
                  refine lv_if_ne (tgt := 56) zx zy dX9_meter_51 (by decide) (fun c51 => ?_) (fun c51 => ?_)
                  · exact absurd c51 (by decide)
                  · skip
                    refine lv_iconst (v := 0) zx zy dX9_meter_54 (by decide) ?_
                    exact fx_iret (v := 0) hQ hC hr hlk hH dX9_meter_55 rfl (Nat.le_of_ble_eq_true rfl) (Nat.le_of_ble_eq_true rfl) (RD) rfl (Or.inr ⟨fun w y q ⟨z1, z2, z3, z4, z5, z6, z7, z8⟩ => by first | exact hg2 ⟨w, z1, z5⟩ | exact hny ⟨y, z2, z3, z6⟩ | exact w_out (N := 3) (by omega) hg37 ⟨q, z4, z7⟩ | exact rd_out hg48 z8, rfl, rfl⟩)
            · skip
              have hH := (hH : fx_H zA zs.heap H locs D [(h, .inr (9, [.int (nI now), .int (nI wk), .ref zcoins, .ref zdebt, .ref zfines, .ref zreading, .int (nI rk), .ref zruleYear, .ref zruleWhat, .ref zruleShare, .int (nI k), .ref zstate, .ref zholder, .ref zyearOf, .ref zusedIn, .ref zprojectOf, .ref zwent, .int ii, .int (nI bk), .ref zbidWorks, .ref zbidMany, .ref zbidPrice, .int ac, .int (nI pj), .ref zisFalse, .ref zcutMany, .ref ztonnes, .ref zcosts, .ref zgiven, .ref zcutOff, .ref zgot, .ref zcutsOf, .int sm, .int mg])), (zreading, .inl (cI, 800, .inl RD))])
              refine lv_if_eq (tgt := 54) zx zy dX9_meter_40 (by decide) (fun c40 => ?_) (fun c40 => ?_)
              · skip
                refine lv_iconst (v := 0) zx zy dX9_meter_54 (by decide) ?_
                exact fx_iret (v := 0) hQ hC hr hlk hH dX9_meter_55 rfl (Nat.le_of_ble_eq_true rfl) (Nat.le_of_ble_eq_true rfl) (RD) rfl (Or.inr ⟨fun w y q ⟨z1, z2, z3, z4, z5, z6, z7, z8⟩ => by first | exact hg2 ⟨w, z1, z5⟩ | exact hny ⟨y, z2, z3, z6⟩ | exact w_out (N := 3) (by omega) hg37 ⟨q, z4, z7⟩ | exact rd_out hg48 z8, rfl, rfl⟩)
              · exact absurd c40 (by decide)
        · skip
          have hH := (hH : fx_H zA zs.heap H locs D [(h, .inr (9, [.int (nI now), .int (nI wk), .ref zcoins, .ref zdebt, .ref zfines, .ref zreading, .int (nI rk), .ref zruleYear, .ref zruleWhat, .ref zruleShare, .int (nI k), .ref zstate, .ref zholder, .ref zyearOf, .ref zusedIn, .ref zprojectOf, .ref zwent, .int ii, .int (nI bk), .ref zbidWorks, .ref zbidMany, .ref zbidPrice, .int ac, .int (nI pj), .ref zisFalse, .ref zcutMany, .ref ztonnes, .ref zcosts, .ref zgiven, .ref zcutOff, .ref zgot, .ref zcutsOf, .int sm, .int mg])), (zreading, .inl (cI, 800, .inl RD))])
          have hny : ¬ ∃ y, y < 20 ∧ y ≤ now ∧ a2 = nI y := by first | exact mt_n1 hnow hg28 | exact mt_n2 hg28
          refine lv_if_eq (tgt := 54) zx zy dX9_meter_31 (by decide) (fun c31 => ?_) (fun c31 => ?_)
          · skip
            refine lv_iconst (v := 0) zx zy dX9_meter_54 (by decide) ?_
            exact fx_iret (v := 0) hQ hC hr hlk hH dX9_meter_55 rfl (Nat.le_of_ble_eq_true rfl) (Nat.le_of_ble_eq_true rfl) (RD) rfl (Or.inr ⟨fun w y q ⟨z1, z2, z3, z4, z5, z6, z7, z8⟩ => by first | exact hg2 ⟨w, z1, z5⟩ | exact hny ⟨y, z2, z3, z6⟩ | exact w_out (N := 3) (by omega) hg37 ⟨q, z4, z7⟩ | exact rd_out hg48 z8, rfl, rfl⟩)
          · exact absurd c31 (by decide)
      · skip
        refine lv_aload_n zx zy dX9_meter_19 rfl (lv_at hl 0 rfl) ?_
        refine fx_get (C := RX9) (T := TX9) (N := 34) hC (fun _ h => List.mem_cons_of_mem _ (List.mem_append_right _ h)) hH 0 rfl rfl 0 (by decide) (by decide +kernel) rfl dX9_meter_20 ?_
        refine lv_goto (tgt := 28) zx zy dX9_meter_23 (by decide) ?_
        refine fx_cSi (n := 3) (As := [.int a2, .int 0, .int (nI now)]) (rest := []) hC hA hH (k_X9_in l D cI cZ a2 0 (nI now)) ⟨rfl, rfl⟩ rfl gX9_meter_X9_in (by decide +kernel) ⟨Nat.le_of_ble_eq_true rfl, Nat.le_of_ble_eq_true rfl⟩ rfl rfl hl.1 (Nat.le_of_ble_eq_true rfl) ⟨(Nat.le_of_ble_eq_true rfl), (Nat.le_of_ble_eq_true rfl)⟩ dX9_meter_28 (fun r6 H locs hw28 hH => ?_)
        rcases hw28 with ⟨hg28, rfl⟩ | ⟨hg28, rfl⟩
        · skip
          have hH := (hH : fx_H zA zs.heap H locs D [(h, .inr (9, [.int (nI now), .int (nI wk), .ref zcoins, .ref zdebt, .ref zfines, .ref zreading, .int (nI rk), .ref zruleYear, .ref zruleWhat, .ref zruleShare, .int (nI k), .ref zstate, .ref zholder, .ref zyearOf, .ref zusedIn, .ref zprojectOf, .ref zwent, .int ii, .int (nI bk), .ref zbidWorks, .ref zbidMany, .ref zbidPrice, .int ac, .int (nI pj), .ref zisFalse, .ref zcutMany, .ref ztonnes, .ref zcosts, .ref zgiven, .ref zcutOff, .ref zgot, .ref zcutsOf, .int sm, .int mg])), (zreading, .inl (cI, 800, .inl RD))])
          obtain ⟨q28, hq28, hq28b, rfl⟩ : ∃ y, y < 20 ∧ y ≤ now ∧ a2 = nI y := by first | exact mt_y1 c16 hnow hg28.1 hg28.2 | exact mt_y2 c16 hnow hg28.1 hg28.2
          have hl := (hl : lv_has ls 5 [(0, .ref h), (1, .int (nI j2)), (2, .int (nI q28)), (3, .int a3), (4, .int a4)])
          refine lv_if_eq (tgt := 54) zx zy dX9_meter_31 (by decide) (fun c31 => ?_) (fun c31 => ?_)
          · exact absurd c31 (by decide)
          · skip
            refine lv_iload_n zx zy dX9_meter_34 rfl (lv_at hl 3 rfl) ?_
            refine lv_iconst (v := 0) zx zy dX9_meter_35 (by decide) ?_
            refine lv_iconst (v := 3) zx zy dX9_meter_36 (by decide) ?_
            refine fx_cSi (n := 3) (As := [.int a3, .int 0, .int 3]) (rest := []) hC hA hH (k_X9_in l D cI cZ a3 0 3) ⟨rfl, rfl⟩ rfl gX9_meter_X9_in (by decide +kernel) ⟨Nat.le_of_ble_eq_true rfl, Nat.le_of_ble_eq_true rfl⟩ rfl rfl hl.1 (Nat.le_of_ble_eq_true rfl) ⟨(Nat.le_of_ble_eq_true rfl), (Nat.le_of_ble_eq_true rfl)⟩ dX9_meter_37 (fun r7 H locs hw37 hH => ?_)
            rcases hw37 with ⟨hg37, rfl⟩ | ⟨hg37, rfl⟩
            · skip
              have hH := (hH : fx_H zA zs.heap H locs D [(h, .inr (9, [.int (nI now), .int (nI wk), .ref zcoins, .ref zdebt, .ref zfines, .ref zreading, .int (nI rk), .ref zruleYear, .ref zruleWhat, .ref zruleShare, .int (nI k), .ref zstate, .ref zholder, .ref zyearOf, .ref zusedIn, .ref zprojectOf, .ref zwent, .int ii, .int (nI bk), .ref zbidWorks, .ref zbidMany, .ref zbidPrice, .int ac, .int (nI pj), .ref zisFalse, .ref zcutMany, .ref ztonnes, .ref zcosts, .ref zgiven, .ref zcutOff, .ref zgot, .ref zcutsOf, .int sm, .int mg])), (zreading, .inl (cI, 800, .inl RD))])
              obtain ⟨q37, hq37, rfl⟩ := w_in (N := 3) (by omega) hg37.1 hg37.2
              have hl := (hl : lv_has ls 5 [(0, .ref h), (1, .int (nI j2)), (2, .int (nI q28)), (3, .int (nI q37)), (4, .int a4)])
              refine lv_if_eq (tgt := 54) zx zy dX9_meter_40 (by decide) (fun c40 => ?_) (fun c40 => ?_)
              · exact absurd c40 (by decide)
              · skip
                refine lv_iload zx zy dX9_meter_43 (lv_at hl 4 rfl) ?_
                refine lv_iconst (v := (-1)) zx zy dX9_meter_45 (by decide) ?_
                refine lv_bipush (v := 99) zx zy dX9_meter_46 (by decide) ?_
                refine fx_cSi (n := 3) (As := [.int a4, .int (-1), .int 99]) (rest := []) hC hA hH (k_X9_in l D cI cZ a4 (-1) 99) ⟨rfl, rfl⟩ rfl gX9_meter_X9_in (by decide +kernel) ⟨Nat.le_of_ble_eq_true rfl, Nat.le_of_ble_eq_true rfl⟩ rfl rfl hl.1 (Nat.le_of_ble_eq_true rfl) ⟨(Nat.le_of_ble_eq_true rfl), (Nat.le_of_ble_eq_true rfl)⟩ dX9_meter_48 (fun r8 H locs hw48 hH => ?_)
                rcases hw48 with ⟨hg48, rfl⟩ | ⟨hg48, rfl⟩
                · skip
                  have hH := (hH : fx_H zA zs.heap H locs D [(h, .inr (9, [.int (nI now), .int (nI wk), .ref zcoins, .ref zdebt, .ref zfines, .ref zreading, .int (nI rk), .ref zruleYear, .ref zruleWhat, .ref zruleShare, .int (nI k), .ref zstate, .ref zholder, .ref zyearOf, .ref zusedIn, .ref zprojectOf, .ref zwent, .int ii, .int (nI bk), .ref zbidWorks, .ref zbidMany, .ref zbidPrice, .int ac, .int (nI pj), .ref zisFalse, .ref zcutMany, .ref ztonnes, .ref zcosts, .ref zgiven, .ref zcutOff, .ref zgot, .ref zcutsOf, .int sm, .int mg])), (zreading, .inl (cI, 800, .inl RD))])
                  refine lv_if_ne (tgt := 56) zx zy dX9_meter_51 (by decide) (fun c51 => ?_) (fun c51 => ?_)
                  · skip
                    refine lv_aload_n zx zy dX9_meter_56 rfl (lv_at hl 0 rfl) ?_
                    refine fx_get (C := RX9) (T := TX9) (N := 34) hC (fun _ h => List.mem_cons_of_mem _ (List.mem_append_right _ h)) hH 0 rfl rfl 5 (by decide) (by decide +kernel) rfl dX9_meter_57 ?_
                    refine lv_iconst (v := 4) zx zy dX9_meter_60 (by decide) ?_
                    refine lv_bipush (v := 20) zx zy dX9_meter_61 (by decide) ?_
                    refine lv_iload_n zx zy dX9_meter_63 rfl (lv_at hl 1 rfl) ?_
                    refine lv_imul zx zy dX9_meter_64 ?_
                    refine lv_iload_n zx zy dX9_meter_65 rfl (lv_at hl 2 rfl) ?_
                    refine lv_iadd zx zy dX9_meter_66 ?_
                    refine lv_imul zx zy dX9_meter_67 ?_
                    refine lv_iload_n zx zy dX9_meter_68 rfl (lv_at hl 3 rfl) ?_
                    refine lv_iadd zx zy dX9_meter_69 ?_
                    refine lv_topi (fun v9 ev9 => ?_)
                    obtain rfl : v9 = nI ((j2 * 20 + q28) * 4 + q37) := ev9.trans (pl4 j2 q28 q37)
                    refine lv_iload zx zy dX9_meter_70 (lv_at hl 4 rfl) ?_
                    refine fx_ist (ws2 := [(h, .inr (9, [.int (nI now), .int (nI wk), .ref zcoins, .ref zdebt, .ref zfines, .ref zreading, .int (nI rk), .ref zruleYear, .ref zruleWhat, .ref zruleShare, .int (nI k), .ref zstate, .ref zholder, .ref zyearOf, .ref zusedIn, .ref zprojectOf, .ref zwent, .int ii, .int (nI bk), .ref zbidWorks, .ref zbidMany, .ref zbidPrice, .int ac, .int (nI pj), .ref zisFalse, .ref zcutMany, .ref ztonnes, .ref zcosts, .ref zgiven, .ref zcutOff, .ref zgot, .ref zcutsOf, .int sm, .int mg])), (zreading, .inl (cI, 800, .inl (upd RD (nI ((j2 * 20 + q28) * 4 + q37)).toNatClampNeg a4)))]) hC hH 1 rfl (vp_in_nI (by omega) (by omega)) rfl dX9_meter_72 (fun H locs hH => ?_)
                    rw [show (upd RD (nI ((j2 * 20 + q28) * 4 + q37)).toNatClampNeg a4 : Nat → Int32) = upd RD ((j2 * 20 + q28) * 4 + q37) a4 from (by rw [nI_clamp (by omega)])] at hH
                    refine lv_iconst (v := 1) zx zy dX9_meter_73 (by decide) ?_
                    exact fx_iret (v := 1) hQ hC hr hlk hH dX9_meter_74 rfl (Nat.le_of_ble_eq_true rfl) (Nat.le_of_ble_eq_true rfl) (upd RD ((j2 * 20 + q28) * 4 + q37) a4) rfl (Or.inl ⟨j2, q28, q37, ⟨hj2, hq28, hq28b, hq37, rfl, rfl, rfl, rd_in hg48.1 hg48.2⟩, rfl, rfl⟩)
                  · exact absurd c51 (by decide)
                · skip
                  have hH := (hH : fx_H zA zs.heap H locs D [(h, .inr (9, [.int (nI now), .int (nI wk), .ref zcoins, .ref zdebt, .ref zfines, .ref zreading, .int (nI rk), .ref zruleYear, .ref zruleWhat, .ref zruleShare, .int (nI k), .ref zstate, .ref zholder, .ref zyearOf, .ref zusedIn, .ref zprojectOf, .ref zwent, .int ii, .int (nI bk), .ref zbidWorks, .ref zbidMany, .ref zbidPrice, .int ac, .int (nI pj), .ref zisFalse, .ref zcutMany, .ref ztonnes, .ref zcosts, .ref zgiven, .ref zcutOff, .ref zgot, .ref zcutsOf, .int sm, .int mg])), (zreading, .inl (cI, 800, .inl RD))])
                  refine lv_if_ne (tgt := 56) zx zy dX9_meter_51 (by decide) (fun c51 => ?_) (fun c51 => ?_)
                  · exact absurd c51 (by decide)
                  · skip
                    refine lv_iconst (v := 0) zx zy dX9_meter_54 (by decide) ?_
                    exact fx_iret (v := 0) hQ hC hr hlk hH dX9_meter_55 rfl (Nat.le_of_ble_eq_true rfl) (Nat.le_of_ble_eq_true rfl) (RD) rfl (Or.inr ⟨fun w y q ⟨z1, z2, z3, z4, z5, z6, z7, z8⟩ => by first | exact hg2 ⟨w, z1, z5⟩ | exact hny ⟨y, z2, z3, z6⟩ | exact w_out (N := 3) (by omega) hg37 ⟨q, z4, z7⟩ | exact rd_out hg48 z8, rfl, rfl⟩)
            · skip
              have hH := (hH : fx_H zA zs.heap H locs D [(h, .inr (9, [.int (nI now), .int (nI wk), .ref zcoins, .ref zdebt, .ref zfines, .ref zreading, .int (nI rk), .ref zruleYear, .ref zruleWhat, .ref zruleShare, .int (nI k), .ref zstate, .ref zholder, .ref zyearOf, .ref zusedIn, .ref zprojectOf, .ref zwent, .int ii, .int (nI bk), .ref zbidWorks, .ref zbidMany, .ref zbidPrice, .int ac, .int (nI pj), .ref zisFalse, .ref zcutMany, .ref ztonnes, .ref zcosts, .ref zgiven, .ref zcutOff, .ref zgot, .ref zcutsOf, .int sm, .int mg])), (zreading, .inl (cI, 800, .inl RD))])
              refine lv_if_eq (tgt := 54) zx zy dX9_meter_40 (by decide) (fun c40 => ?_) (fun c40 => ?_)
              · skip
                refine lv_iconst (v := 0) zx zy dX9_meter_54 (by decide) ?_
                exact fx_iret (v := 0) hQ hC hr hlk hH dX9_meter_55 rfl (Nat.le_of_ble_eq_true rfl) (Nat.le_of_ble_eq_true rfl) (RD) rfl (Or.inr ⟨fun w y q ⟨z1, z2, z3, z4, z5, z6, z7, z8⟩ => by first | exact hg2 ⟨w, z1, z5⟩ | exact hny ⟨y, z2, z3, z6⟩ | exact w_out (N := 3) (by omega) hg37 ⟨q, z4, z7⟩ | exact rd_out hg48 z8, rfl, rfl⟩)
              · exact absurd c40 (by decide)
        · skip
          have hH := (hH : fx_H zA zs.heap H locs D [(h, .inr (9, [.int (nI now), .int (nI wk), .ref zcoins, .ref zdebt, .ref zfines, .ref zreading, .int (nI rk), .ref zruleYear, .ref zruleWhat, .ref zruleShare, .int (nI k), .ref zstate, .ref zholder, .ref zyearOf, .ref zusedIn, .ref zprojectOf, .ref zwent, .int ii, .int (nI bk), .ref zbidWorks, .ref zbidMany, .ref zbidPrice, .int ac, .int (nI pj), .ref zisFalse, .ref zcutMany, .ref ztonnes, .ref zcosts, .ref zgiven, .ref zcutOff, .ref zgot, .ref zcutsOf, .int sm, .int mg])), (zreading, .inl (cI, 800, .inl RD))])
          have hny : ¬ ∃ y, y < 20 ∧ y ≤ now ∧ a2 = nI y := by first | exact mt_n1 hnow hg28 | exact mt_n2 hg28
          refine lv_if_eq (tgt := 54) zx zy dX9_meter_31 (by decide) (fun c31 => ?_) (fun c31 => ?_)
          · skip
            refine lv_iconst (v := 0) zx zy dX9_meter_54 (by decide) ?_
            exact fx_iret (v := 0) hQ hC hr hlk hH dX9_meter_55 rfl (Nat.le_of_ble_eq_true rfl) (Nat.le_of_ble_eq_true rfl) (RD) rfl (Or.inr ⟨fun w y q ⟨z1, z2, z3, z4, z5, z6, z7, z8⟩ => by first | exact hg2 ⟨w, z1, z5⟩ | exact hny ⟨y, z2, z3, z6⟩ | exact w_out (N := 3) (by omega) hg37 ⟨q, z4, z7⟩ | exact rd_out hg48 z8, rfl, rfl⟩)
          · exact absurd c31 (by decide)
  · skip
    have hH := (hH : fx_H zA zs.heap H locs D [(h, .inr (9, [.int (nI now), .int (nI wk), .ref zcoins, .ref zdebt, .ref zfines, .ref zreading, .int (nI rk), .ref zruleYear, .ref zruleWhat, .ref zruleShare, .int (nI k), .ref zstate, .ref zholder, .ref zyearOf, .ref zusedIn, .ref zprojectOf, .ref zwent, .int ii, .int (nI bk), .ref zbidWorks, .ref zbidMany, .ref zbidPrice, .int ac, .int (nI pj), .ref zisFalse, .ref zcutMany, .ref ztonnes, .ref zcosts, .ref zgiven, .ref zcutOff, .ref zgot, .ref zcutsOf, .int sm, .int mg])), (zreading, .inl (cI, 800, .inl RD))])
    refine lv_if_eq (tgt := 54) zx zy dX9_meter_5 (by decide) (fun c5 => ?_) (fun c5 => ?_)
    · skip
      refine lv_iconst (v := 0) zx zy dX9_meter_54 (by decide) ?_
      exact fx_iret (v := 0) hQ hC hr hlk hH dX9_meter_55 rfl (Nat.le_of_ble_eq_true rfl) (Nat.le_of_ble_eq_true rfl) (RD) rfl (Or.inr ⟨fun w y q ⟨z1, z2, z3, z4, z5, z6, z7, z8⟩ => by first | exact hg2 ⟨w, z1, z5⟩ | exact hny ⟨y, z2, z3, z6⟩ | exact w_out (N := 3) (by omega) hg37 ⟨q, z4, z7⟩ | exact rd_out hg48 z8, rfl, rfl⟩)
    · exact absurd c5 (by decide)
set_option maxHeartbeats 4000000 in
set_option maxRecDepth 100000 in
theorem k_X9_greatest (l : Launch) (D : va_G) (cI cZ : ClassId) (h : Nat) (zcoins : Nat) (zdebt : Nat) (zfines : Nat) (zreading : Nat) (zruleYear : Nat) (zruleWhat : Nat) (zruleShare : Nat) (zstate : Nat) (zholder : Nat) (zyearOf : Nat) (zusedIn : Nat) (zprojectOf : Nat) (zwent : Nat) (zbidWorks : Nat) (zbidMany : Nat) (zbidPrice : Nat) (zisFalse : Nat) (zcutMany : Nat) (ztonnes : Nat) (zcosts : Nat) (zgiven : Nat) (zcutOff : Nat) (zgot : Nat) (zcutsOf : Nat) (now : Nat) (wk : Nat) (rk : Nat) (k : Nat) (ii : Int32) (bk : Nat) (ac : Int32) (pj : Nat) (sm : Int32) (mg : Int32) (RD : Nat → Int32) (w : Nat) (y : Nat) (hw10 : w < 10) (hy : y < 20) : fx_CI l D cI cZ yX9_greatest wsX9_greatest ({ frames := 0, cells := 0, slots := 0, locals := 0 }) [.ref h, .int (nI w), .int (nI y)] [(h, .inr (9, [.int (nI now), .int (nI wk), .ref zcoins, .ref zdebt, .ref zfines, .ref zreading, .int (nI rk), .ref zruleYear, .ref zruleWhat, .ref zruleShare, .int (nI k), .ref zstate, .ref zholder, .ref zyearOf, .ref zusedIn, .ref zprojectOf, .ref zwent, .int ii, .int (nI bk), .ref zbidWorks, .ref zbidMany, .ref zbidPrice, .int ac, .int (nI pj), .ref zisFalse, .ref zcutMany, .ref ztonnes, .ref zcosts, .ref zgiven, .ref zcutOff, .ref zgot, .ref zcutsOf, .int sm, .int mg])), (zreading, .inl (cI, 800, .inl RD))] (fun (u : Unit) => [(h, .inr (9, [.int (nI now), .int (nI wk), .ref zcoins, .ref zdebt, .ref zfines, .ref zreading, .int (nI rk), .ref zruleYear, .ref zruleWhat, .ref zruleShare, .int (nI k), .ref zstate, .ref zholder, .ref zyearOf, .ref zusedIn, .ref zprojectOf, .ref zwent, .int ii, .int (nI bk), .ref zbidWorks, .ref zbidMany, .ref zbidPrice, .int ac, .int (nI pj), .ref zisFalse, .ref zcutMany, .ref ztonnes, .ref zcosts, .ref zgiven, .ref zcutOff, .ref zgot, .ref zcutsOf, .int sm, .int mg])), (zreading, .inl (cI, 800, .inl RD))]) (fun (r : Int32) (u : Unit) => r = gapT RD w y) := by
  refine fx_CI.of (ws' := (wsX9_greatest).tail) cX9_greatest 6 (by decide) rfl (Nat.le_of_ble_eq_true rfl) ?_
  intro zp ze zs zm za zb zt zc zA ls zQ hQ hC hr hlk hA hH hl
  have zx := hC.1.1
  have zy := hC.1.2.1
  have hl : lv_has ls 6 [(0, .ref h), (1, .int (nI w)), (2, .int (nI y))] := hl
  refine lv_iconst (v := (-1)) zx zy dX9_greatest_0 (by decide) ?_
  refine lv_istore_n (lv' := [(3, .int (-1)), (0, .ref h), (1, .int (nI w)), (2, .int (nI y))]) zx zy dX9_greatest_1 rfl hl (by decide) rfl (fun ls hl => ?_)
  refine lv_iload_n zx zy dX9_greatest_2 rfl (lv_at hl 3 rfl) ?_
  refine lv_if_le (tgt := 12) zx zy dX9_greatest_3 (by decide) (fun c3 => ?_) (fun c3 => ?_)
  · skip
    have hy0 : y = 0 := fx_zero_of c3 (by omega)
    refine lv_iconst (v := 0) zx zy dX9_greatest_12 (by decide) ?_
    refine lv_topi (fun v1 ev1 => ?_)
    obtain rfl : v1 = nI 0 := ev1.trans (rfl)
    refine lv_istore (lv' := [(4, .int (nI 0)), (3, .int (-1)), (0, .ref h), (1, .int (nI w)), (2, .int (nI y))]) zx zy dX9_greatest_13 hl (by decide) rfl (fun ls hl => ?_)
    have L15 : ∀ (fu : Nat) (n : Nat) (t : Int32) (hn : 0 + n ≤ y + 1) (ht : t = gr2 RD w 0 n) (H : Heap) (locs : List Loc) (ls : Array Slot), y + 1 - (0 + n) < fu → fx_H zA zs.heap H locs D [(h, .inr (9, [.int (nI now), .int (nI wk), .ref zcoins, .ref zdebt, .ref zfines, .ref zreading, .int (nI rk), .ref zruleYear, .ref zruleWhat, .ref zruleShare, .int (nI k), .ref zstate, .ref zholder, .ref zyearOf, .ref zusedIn, .ref zprojectOf, .ref zwent, .int ii, .int (nI bk), .ref zbidWorks, .ref zbidMany, .ref zbidPrice, .int ac, .int (nI pj), .ref zisFalse, .ref zcutMany, .ref ztonnes, .ref zcosts, .ref zgiven, .ref zcutOff, .ref zgot, .ref zcutsOf, .int sm, .int mg])), (zreading, .inl (cI, 800, .inl RD))] → lv_has ls 6 [(0, .ref h), (1, .int (nI w)), (2, .int (nI y)), (3, .int t), (4, .int (nI (0 + n)))] → W zp l ze ({ frames := 0, cells := 0, slots := 0, locals := 0 }) zs zm za zb zt zc H locs (0) (0) zQ (F0 zm 15 ls []) := by
      intro fu
      induction fu with
      | zero => intro n t hn ht H locs ls hfu; exact absurd hfu (Nat.not_lt_zero _)
      | succ fu ih15 =>
        intro n t hn ht H locs ls hfu15 hH hl
        refine lv_iload zx zy dX9_greatest_15 (lv_at hl 4 rfl) ?_
        refine lv_iload_n zx zy dX9_greatest_17 rfl (lv_at hl 2 rfl) ?_
        refine lv_icmp_gt (tgt := 81) zx zy dX9_greatest_18 (by decide) (fun c18 => ?_) (fun c18 => ?_)
        · skip
          have hyn := (nI_ltI (by omega) (by omega)).mp c18
          refine lv_iload_n zx zy dX9_greatest_81 rfl (lv_at hl 3 rfl) ?_
          exact fx_iret (v := t) hQ hC hr hlk hH dX9_greatest_82 rfl (Nat.le_of_ble_eq_true rfl) (Nat.le_of_ble_eq_true rfl) (()) rfl (by first | exact (by rw [ht, show n = 1 by omega, hy0]; exact gr2_0 RD w) | exact (by rw [ht, show n = 2 by omega]; exact gr2_1 RD w hy0 (by omega)))
        · skip
          have hyn := Nat.le_of_not_lt (fun z => c18 (nI_lt z (by omega)))
          refine lv_iconst (v := 0) zx zy dX9_greatest_21 (by decide) ?_
          refine lv_topi (fun v2 ev2 => ?_)
          obtain rfl : v2 = nI 0 := ev2.trans (rfl)
          refine lv_istore (lv' := [(5, .int (nI 0)), (0, .ref h), (1, .int (nI w)), (2, .int (nI y)), (3, .int t), (4, .int (nI (0 + n)))]) zx zy dX9_greatest_22 hl (by decide) rfl (fun ls hl => ?_)
          have L24 : ∀ (fu : Nat) (q : Nat) (t2 : Int32) (hq : q ≤ 4) (ht2 : t2 = grS RD ((w * 20 + (0 + n)) * 4) t q) (H : Heap) (locs : List Loc) (ls : Array Slot), 4 - q < fu → fx_H zA zs.heap H locs D [(h, .inr (9, [.int (nI now), .int (nI wk), .ref zcoins, .ref zdebt, .ref zfines, .ref zreading, .int (nI rk), .ref zruleYear, .ref zruleWhat, .ref zruleShare, .int (nI k), .ref zstate, .ref zholder, .ref zyearOf, .ref zusedIn, .ref zprojectOf, .ref zwent, .int ii, .int (nI bk), .ref zbidWorks, .ref zbidMany, .ref zbidPrice, .int ac, .int (nI pj), .ref zisFalse, .ref zcutMany, .ref ztonnes, .ref zcosts, .ref zgiven, .ref zcutOff, .ref zgot, .ref zcutsOf, .int sm, .int mg])), (zreading, .inl (cI, 800, .inl RD))] → lv_has ls 6 [(0, .ref h), (1, .int (nI w)), (2, .int (nI y)), (3, .int t2), (4, .int (nI (0 + n))), (5, .int (nI q))] → W zp l ze ({ frames := 0, cells := 0, slots := 0, locals := 0 }) zs zm za zb zt zc H locs (0) (0) zQ (F0 zm 24 ls []) := by
            intro fu
            induction fu with
            | zero => intro q t2 hq ht2 H locs ls hfu; exact absurd hfu (Nat.not_lt_zero _)
            | succ fu ih24 =>
              intro q t2 hq ht2 H locs ls hfu24 hH hl
              refine lv_iload zx zy dX9_greatest_24 (lv_at hl 5 rfl) ?_
              refine lv_iconst (v := 4) zx zy dX9_greatest_26 (by decide) ?_
              refine lv_icmp_ge (tgt := 75) zx zy dX9_greatest_27 (by decide) (fun c27 => ?_) (fun c27 => ?_)
              · skip
                have hq4 : q = 4 := Nat.le_antisymm hq (fx_le_of (a := 4) c27 (by omega) (by omega))
                refine lv_iinc (v := nI ((0 + n) + 1)) (lv' := [(4, .int (nI ((0 + n) + 1))), (0, .ref h), (1, .int (nI w)), (2, .int (nI y)), (3, .int t2), (5, .int (nI q))]) zx zy dX9_greatest_75 hl (k := 4) rfl (nI_1 _) (by decide) rfl (fun ls hl => ?_)
                refine lv_goto (tgt := 15) zx zy dX9_greatest_78 (by decide) ?_
                exact ih15 (n + 1) t2 (by first | assumption | omega) (by rw [ht2, hq4, ht]; rfl) _ _ _ (by omega) hH (lv_sub hl [1, 2, 3, 4, 0] rfl)
              · skip
                have hq3 : q < 4 := fx_lt_of (b := 4) c27 (by omega)
                refine lv_aload_n zx zy dX9_greatest_30 rfl (lv_at hl 0 rfl) ?_
                refine fx_get (C := RX9) (T := TX9) (N := 34) hC (fun _ h => List.mem_cons_of_mem _ (List.mem_append_right _ h)) hH 0 rfl rfl 5 (by decide) (by decide +kernel) rfl dX9_greatest_31 ?_
                refine lv_iconst (v := 4) zx zy dX9_greatest_34 (by decide) ?_
                refine lv_bipush (v := 20) zx zy dX9_greatest_35 (by decide) ?_
                refine lv_iload_n zx zy dX9_greatest_37 rfl (lv_at hl 1 rfl) ?_
                refine lv_imul zx zy dX9_greatest_38 ?_
                refine lv_iload zx zy dX9_greatest_39 (lv_at hl 4 rfl) ?_
                refine lv_iadd zx zy dX9_greatest_41 ?_
                refine lv_imul zx zy dX9_greatest_42 ?_
                refine lv_iload zx zy dX9_greatest_43 (lv_at hl 5 rfl) ?_
                refine lv_iadd zx zy dX9_greatest_45 ?_
                refine lv_topi (fun v3 ev3 => ?_)
                obtain rfl : v3 = nI ((w * 20 + (0 + n)) * 4 + q) := ev3.trans (pl4 w (0 + n) q)
                refine fx_ild hC hH 1 rfl (vp_in_nI (by omega) (by omega)) dX9_greatest_46 ?_
                refine lv_topi (fun v4 ev4 => ?_)
                obtain rfl : v4 = RD ((w * 20 + (0 + n)) * 4 + q) := ev4.trans (congrArg RD (nI_clamp (by omega)))
                refine lv_iload_n zx zy dX9_greatest_47 rfl (lv_at hl 3 rfl) ?_
                refine lv_icmp_le (tgt := 69) zx zy dX9_greatest_48 (by decide) (fun c48 => ?_) (fun c48 => ?_)
                · skip
                  refine lv_iinc (v := nI (q + 1)) (lv' := [(5, .int (nI (q + 1))), (0, .ref h), (1, .int (nI w)), (2, .int (nI y)), (3, .int t2), (4, .int (nI (0 + n)))]) zx zy dX9_greatest_69 hl (k := 5) rfl (nI_1 _) (by decide) rfl (fun ls hl => ?_)
                  refine lv_goto (tgt := 24) zx zy dX9_greatest_72 (by decide) ?_
                  exact ih24 (q + 1) t2 (by first | assumption | omega) (by subst ht2; first | exact (if_neg (Int32.not_lt.mpr c48)).symm | exact (if_pos (i_nle c48)).symm) _ _ _ (by omega) hH (lv_sub hl [1, 2, 3, 4, 5, 0] rfl)
                · skip
                  refine lv_aload_n zx zy dX9_greatest_51 rfl (lv_at hl 0 rfl) ?_
                  refine fx_get (C := RX9) (T := TX9) (N := 34) hC (fun _ h => List.mem_cons_of_mem _ (List.mem_append_right _ h)) hH 0 rfl rfl 5 (by decide) (by decide +kernel) rfl dX9_greatest_52 ?_
                  refine lv_iconst (v := 4) zx zy dX9_greatest_55 (by decide) ?_
                  refine lv_bipush (v := 20) zx zy dX9_greatest_56 (by decide) ?_
                  refine lv_iload_n zx zy dX9_greatest_58 rfl (lv_at hl 1 rfl) ?_
                  refine lv_imul zx zy dX9_greatest_59 ?_
                  refine lv_iload zx zy dX9_greatest_60 (lv_at hl 4 rfl) ?_
                  refine lv_iadd zx zy dX9_greatest_62 ?_
                  refine lv_imul zx zy dX9_greatest_63 ?_
                  refine lv_iload zx zy dX9_greatest_64 (lv_at hl 5 rfl) ?_
                  refine lv_iadd zx zy dX9_greatest_66 ?_
                  refine lv_topi (fun v5 ev5 => ?_)
                  obtain rfl : v5 = nI ((w * 20 + (0 + n)) * 4 + q) := ev5.trans (pl4 w (0 + n) q)
                  refine fx_ild hC hH 1 rfl (vp_in_nI (by omega) (by omega)) dX9_greatest_67 ?_
                  refine lv_topi (fun v6 ev6 => ?_)
                  obtain rfl : v6 = RD ((w * 20 + (0 + n)) * 4 + q) := ev6.trans (congrArg RD (nI_clamp (by omega)))
                  refine lv_istore_n (lv' := [(3, .int (RD ((w * 20 + (0 + n)) * 4 + q))), (0, .ref h), (1, .int (nI w)), (2, .int (nI y)), (4, .int (nI (0 + n))), (5, .int (nI q))]) zx zy dX9_greatest_68 rfl hl (by decide) rfl (fun ls hl => ?_)
                  refine lv_iinc (v := nI (q + 1)) (lv' := [(5, .int (nI (q + 1))), (3, .int (RD ((w * 20 + (0 + n)) * 4 + q))), (0, .ref h), (1, .int (nI w)), (2, .int (nI y)), (4, .int (nI (0 + n)))]) zx zy dX9_greatest_69 hl (k := 5) rfl (nI_1 _) (by decide) rfl (fun ls hl => ?_)
                  refine lv_goto (tgt := 24) zx zy dX9_greatest_72 (by decide) ?_
                  exact ih24 (q + 1) (RD ((w * 20 + (0 + n)) * 4 + q)) (by first | assumption | omega) (by subst ht2; first | exact (if_neg (Int32.not_lt.mpr c48)).symm | exact (if_pos (i_nle c48)).symm) _ _ _ (by omega) hH (lv_sub hl [2, 3, 4, 1, 5, 0] rfl)
          exact L24 _ 0 t (by first | assumption | omega) (rfl) _ _ _ (Nat.lt_succ_self _) hH (lv_sub hl [1, 2, 3, 4, 5, 0] rfl)
    exact L15 _ 0 (-1) (by first | assumption | omega) (rfl) _ _ _ (Nat.lt_succ_self _) hH (lv_sub hl [2, 3, 4, 1, 0] rfl)
  · skip
    have hy0 : 0 < y := fx_pos_of c3 (by omega)
    refine lv_iload_n zx zy dX9_greatest_6 rfl (lv_at hl 3 rfl) ?_
    refine lv_iconst (v := 1) zx zy dX9_greatest_7 (by decide) ?_
    refine lv_isub zx zy dX9_greatest_8 ?_
    refine lv_topi (fun v7 ev7 => ?_)
    obtain rfl : v7 = nI (y - 1) := ev7.trans (fx_m1 hy0)
    refine lv_goto (tgt := 13) zx zy dX9_greatest_9 (by decide) ?_
    refine lv_istore (lv' := [(4, .int (nI (y - 1))), (3, .int (-1)), (0, .ref h), (1, .int (nI w)), (2, .int (nI y))]) zx zy dX9_greatest_13 hl (by decide) rfl (fun ls hl => ?_)
    have L15 : ∀ (fu : Nat) (n : Nat) (t : Int32) (hn : (y - 1) + n ≤ y + 1) (ht : t = gr2 RD w (y - 1) n) (H : Heap) (locs : List Loc) (ls : Array Slot), y + 1 - ((y - 1) + n) < fu → fx_H zA zs.heap H locs D [(h, .inr (9, [.int (nI now), .int (nI wk), .ref zcoins, .ref zdebt, .ref zfines, .ref zreading, .int (nI rk), .ref zruleYear, .ref zruleWhat, .ref zruleShare, .int (nI k), .ref zstate, .ref zholder, .ref zyearOf, .ref zusedIn, .ref zprojectOf, .ref zwent, .int ii, .int (nI bk), .ref zbidWorks, .ref zbidMany, .ref zbidPrice, .int ac, .int (nI pj), .ref zisFalse, .ref zcutMany, .ref ztonnes, .ref zcosts, .ref zgiven, .ref zcutOff, .ref zgot, .ref zcutsOf, .int sm, .int mg])), (zreading, .inl (cI, 800, .inl RD))] → lv_has ls 6 [(0, .ref h), (1, .int (nI w)), (2, .int (nI y)), (3, .int t), (4, .int (nI ((y - 1) + n)))] → W zp l ze ({ frames := 0, cells := 0, slots := 0, locals := 0 }) zs zm za zb zt zc H locs (0) (0) zQ (F0 zm 15 ls []) := by
      intro fu
      induction fu with
      | zero => intro n t hn ht H locs ls hfu; exact absurd hfu (Nat.not_lt_zero _)
      | succ fu ih15 =>
        intro n t hn ht H locs ls hfu15 hH hl
        refine lv_iload zx zy dX9_greatest_15 (lv_at hl 4 rfl) ?_
        refine lv_iload_n zx zy dX9_greatest_17 rfl (lv_at hl 2 rfl) ?_
        refine lv_icmp_gt (tgt := 81) zx zy dX9_greatest_18 (by decide) (fun c18 => ?_) (fun c18 => ?_)
        · skip
          have hyn := (nI_ltI (by omega) (by omega)).mp c18
          refine lv_iload_n zx zy dX9_greatest_81 rfl (lv_at hl 3 rfl) ?_
          exact fx_iret (v := t) hQ hC hr hlk hH dX9_greatest_82 rfl (Nat.le_of_ble_eq_true rfl) (Nat.le_of_ble_eq_true rfl) (()) rfl (by first | exact (by rw [ht, show n = 1 by omega, hy0]; exact gr2_0 RD w) | exact (by rw [ht, show n = 2 by omega]; exact gr2_1 RD w hy0 (by omega)))
        · skip
          have hyn := Nat.le_of_not_lt (fun z => c18 (nI_lt z (by omega)))
          refine lv_iconst (v := 0) zx zy dX9_greatest_21 (by decide) ?_
          refine lv_topi (fun v8 ev8 => ?_)
          obtain rfl : v8 = nI 0 := ev8.trans (rfl)
          refine lv_istore (lv' := [(5, .int (nI 0)), (0, .ref h), (1, .int (nI w)), (2, .int (nI y)), (3, .int t), (4, .int (nI ((y - 1) + n)))]) zx zy dX9_greatest_22 hl (by decide) rfl (fun ls hl => ?_)
          have L24 : ∀ (fu : Nat) (q : Nat) (t2 : Int32) (hq : q ≤ 4) (ht2 : t2 = grS RD ((w * 20 + ((y - 1) + n)) * 4) t q) (H : Heap) (locs : List Loc) (ls : Array Slot), 4 - q < fu → fx_H zA zs.heap H locs D [(h, .inr (9, [.int (nI now), .int (nI wk), .ref zcoins, .ref zdebt, .ref zfines, .ref zreading, .int (nI rk), .ref zruleYear, .ref zruleWhat, .ref zruleShare, .int (nI k), .ref zstate, .ref zholder, .ref zyearOf, .ref zusedIn, .ref zprojectOf, .ref zwent, .int ii, .int (nI bk), .ref zbidWorks, .ref zbidMany, .ref zbidPrice, .int ac, .int (nI pj), .ref zisFalse, .ref zcutMany, .ref ztonnes, .ref zcosts, .ref zgiven, .ref zcutOff, .ref zgot, .ref zcutsOf, .int sm, .int mg])), (zreading, .inl (cI, 800, .inl RD))] → lv_has ls 6 [(0, .ref h), (1, .int (nI w)), (2, .int (nI y)), (3, .int t2), (4, .int (nI ((y - 1) + n))), (5, .int (nI q))] → W zp l ze ({ frames := 0, cells := 0, slots := 0, locals := 0 }) zs zm za zb zt zc H locs (0) (0) zQ (F0 zm 24 ls []) := by
            intro fu
            induction fu with
            | zero => intro q t2 hq ht2 H locs ls hfu; exact absurd hfu (Nat.not_lt_zero _)
            | succ fu ih24 =>
              intro q t2 hq ht2 H locs ls hfu24 hH hl
              refine lv_iload zx zy dX9_greatest_24 (lv_at hl 5 rfl) ?_
              refine lv_iconst (v := 4) zx zy dX9_greatest_26 (by decide) ?_
              refine lv_icmp_ge (tgt := 75) zx zy dX9_greatest_27 (by decide) (fun c27 => ?_) (fun c27 => ?_)
              · skip
                have hq4 : q = 4 := Nat.le_antisymm hq (fx_le_of (a := 4) c27 (by omega) (by omega))
                refine lv_iinc (v := nI (((y - 1) + n) + 1)) (lv' := [(4, .int (nI (((y - 1) + n) + 1))), (0, .ref h), (1, .int (nI w)), (2, .int (nI y)), (3, .int t2), (5, .int (nI q))]) zx zy dX9_greatest_75 hl (k := 4) rfl (nI_1 _) (by decide) rfl (fun ls hl => ?_)
                refine lv_goto (tgt := 15) zx zy dX9_greatest_78 (by decide) ?_
                exact ih15 (n + 1) t2 (by first | assumption | omega) (by rw [ht2, hq4, ht]; rfl) _ _ _ (by omega) hH (lv_sub hl [1, 2, 3, 4, 0] rfl)
              · skip
                have hq3 : q < 4 := fx_lt_of (b := 4) c27 (by omega)
                refine lv_aload_n zx zy dX9_greatest_30 rfl (lv_at hl 0 rfl) ?_
                refine fx_get (C := RX9) (T := TX9) (N := 34) hC (fun _ h => List.mem_cons_of_mem _ (List.mem_append_right _ h)) hH 0 rfl rfl 5 (by decide) (by decide +kernel) rfl dX9_greatest_31 ?_
                refine lv_iconst (v := 4) zx zy dX9_greatest_34 (by decide) ?_
                refine lv_bipush (v := 20) zx zy dX9_greatest_35 (by decide) ?_
                refine lv_iload_n zx zy dX9_greatest_37 rfl (lv_at hl 1 rfl) ?_
                refine lv_imul zx zy dX9_greatest_38 ?_
                refine lv_iload zx zy dX9_greatest_39 (lv_at hl 4 rfl) ?_
                refine lv_iadd zx zy dX9_greatest_41 ?_
                refine lv_imul zx zy dX9_greatest_42 ?_
                refine lv_iload zx zy dX9_greatest_43 (lv_at hl 5 rfl) ?_
                refine lv_iadd zx zy dX9_greatest_45 ?_
                refine lv_topi (fun v9 ev9 => ?_)
                obtain rfl : v9 = nI ((w * 20 + ((y - 1) + n)) * 4 + q) := ev9.trans (pl4 w ((y - 1) + n) q)
                refine fx_ild hC hH 1 rfl (vp_in_nI (by omega) (by omega)) dX9_greatest_46 ?_
                refine lv_topi (fun v10 ev10 => ?_)
                obtain rfl : v10 = RD ((w * 20 + ((y - 1) + n)) * 4 + q) := ev10.trans (congrArg RD (nI_clamp (by omega)))
                refine lv_iload_n zx zy dX9_greatest_47 rfl (lv_at hl 3 rfl) ?_
                refine lv_icmp_le (tgt := 69) zx zy dX9_greatest_48 (by decide) (fun c48 => ?_) (fun c48 => ?_)
                · skip
                  refine lv_iinc (v := nI (q + 1)) (lv' := [(5, .int (nI (q + 1))), (0, .ref h), (1, .int (nI w)), (2, .int (nI y)), (3, .int t2), (4, .int (nI ((y - 1) + n)))]) zx zy dX9_greatest_69 hl (k := 5) rfl (nI_1 _) (by decide) rfl (fun ls hl => ?_)
                  refine lv_goto (tgt := 24) zx zy dX9_greatest_72 (by decide) ?_
                  exact ih24 (q + 1) t2 (by first | assumption | omega) (by subst ht2; first | exact (if_neg (Int32.not_lt.mpr c48)).symm | exact (if_pos (i_nle c48)).symm) _ _ _ (by omega) hH (lv_sub hl [1, 2, 3, 4, 5, 0] rfl)
                · skip
                  refine lv_aload_n zx zy dX9_greatest_51 rfl (lv_at hl 0 rfl) ?_
                  refine fx_get (C := RX9) (T := TX9) (N := 34) hC (fun _ h => List.mem_cons_of_mem _ (List.mem_append_right _ h)) hH 0 rfl rfl 5 (by decide) (by decide +kernel) rfl dX9_greatest_52 ?_
                  refine lv_iconst (v := 4) zx zy dX9_greatest_55 (by decide) ?_
                  refine lv_bipush (v := 20) zx zy dX9_greatest_56 (by decide) ?_
                  refine lv_iload_n zx zy dX9_greatest_58 rfl (lv_at hl 1 rfl) ?_
                  refine lv_imul zx zy dX9_greatest_59 ?_
                  refine lv_iload zx zy dX9_greatest_60 (lv_at hl 4 rfl) ?_
                  refine lv_iadd zx zy dX9_greatest_62 ?_
                  refine lv_imul zx zy dX9_greatest_63 ?_
                  refine lv_iload zx zy dX9_greatest_64 (lv_at hl 5 rfl) ?_
                  refine lv_iadd zx zy dX9_greatest_66 ?_
                  refine lv_topi (fun v11 ev11 => ?_)
                  obtain rfl : v11 = nI ((w * 20 + ((y - 1) + n)) * 4 + q) := ev11.trans (pl4 w ((y - 1) + n) q)
                  refine fx_ild hC hH 1 rfl (vp_in_nI (by omega) (by omega)) dX9_greatest_67 ?_
                  refine lv_topi (fun v12 ev12 => ?_)
                  obtain rfl : v12 = RD ((w * 20 + ((y - 1) + n)) * 4 + q) := ev12.trans (congrArg RD (nI_clamp (by omega)))
                  refine lv_istore_n (lv' := [(3, .int (RD ((w * 20 + ((y - 1) + n)) * 4 + q))), (0, .ref h), (1, .int (nI w)), (2, .int (nI y)), (4, .int (nI ((y - 1) + n))), (5, .int (nI q))]) zx zy dX9_greatest_68 rfl hl (by decide) rfl (fun ls hl => ?_)
                  refine lv_iinc (v := nI (q + 1)) (lv' := [(5, .int (nI (q + 1))), (3, .int (RD ((w * 20 + ((y - 1) + n)) * 4 + q))), (0, .ref h), (1, .int (nI w)), (2, .int (nI y)), (4, .int (nI ((y - 1) + n)))]) zx zy dX9_greatest_69 hl (k := 5) rfl (nI_1 _) (by decide) rfl (fun ls hl => ?_)
                  refine lv_goto (tgt := 24) zx zy dX9_greatest_72 (by decide) ?_
                  exact ih24 (q + 1) (RD ((w * 20 + ((y - 1) + n)) * 4 + q)) (by first | assumption | omega) (by subst ht2; first | exact (if_neg (Int32.not_lt.mpr c48)).symm | exact (if_pos (i_nle c48)).symm) _ _ _ (by omega) hH (lv_sub hl [2, 3, 4, 1, 5, 0] rfl)
          exact L24 _ 0 t (by first | assumption | omega) (rfl) _ _ _ (Nat.lt_succ_self _) hH (lv_sub hl [1, 2, 3, 4, 5, 0] rfl)
    exact L15 _ 0 (-1) (by first | assumption | omega) (rfl) _ _ _ (Nat.lt_succ_self _) hH (lv_sub hl [2, 3, 4, 1, 0] rfl)
set_option maxHeartbeats 4000000 in
set_option maxRecDepth 100000 in
theorem k_X9_fouled (l : Launch) (D : va_G) (cI cZ : ClassId) (h : Nat) (zcoins : Nat) (zdebt : Nat) (zfines : Nat) (zreading : Nat) (zruleYear : Nat) (zruleWhat : Nat) (zruleShare : Nat) (zstate : Nat) (zholder : Nat) (zyearOf : Nat) (zusedIn : Nat) (zprojectOf : Nat) (zwent : Nat) (zbidWorks : Nat) (zbidMany : Nat) (zbidPrice : Nat) (zisFalse : Nat) (zcutMany : Nat) (ztonnes : Nat) (zcosts : Nat) (zgiven : Nat) (zcutOff : Nat) (zgot : Nat) (zcutsOf : Nat) (now : Nat) (wk : Nat) (rk : Nat) (k : Nat) (ii : Int32) (bk : Nat) (ac : Int32) (pj : Nat) (sm : Int32) (mg : Int32) (RD : Nat → Int32) (a1 : Int32) (a2 : Int32) (hwk : wk ≤ 10) (hRD : ∀ j, j < 800 → RD j = -1 ∨ ∃ v, v < 100 ∧ RD j = nI v) : fx_CI l D cI cZ yX9_fouled wsX9_fouled ({ frames := 2, cells := 0, slots := 0, locals := 43 }) [.ref h, .int a1, .int a2] [(h, .inr (9, [.int (nI now), .int (nI wk), .ref zcoins, .ref zdebt, .ref zfines, .ref zreading, .int (nI rk), .ref zruleYear, .ref zruleWhat, .ref zruleShare, .int (nI k), .ref zstate, .ref zholder, .ref zyearOf, .ref zusedIn, .ref zprojectOf, .ref zwent, .int ii, .int (nI bk), .ref zbidWorks, .ref zbidMany, .ref zbidPrice, .int ac, .int (nI pj), .ref zisFalse, .ref zcutMany, .ref ztonnes, .ref zcosts, .ref zgiven, .ref zcutOff, .ref zgot, .ref zcutsOf, .int sm, .int mg])), (zreading, .inl (cI, 800, .inl RD))] (fun (u : Unit) => [(h, .inr (9, [.int (nI now), .int (nI wk), .ref zcoins, .ref zdebt, .ref zfines, .ref zreading, .int (nI rk), .ref zruleYear, .ref zruleWhat, .ref zruleShare, .int (nI k), .ref zstate, .ref zholder, .ref zyearOf, .ref zusedIn, .ref zprojectOf, .ref zwent, .int ii, .int (nI bk), .ref zbidWorks, .ref zbidMany, .ref zbidPrice, .int ac, .int (nI pj), .ref zisFalse, .ref zcutMany, .ref ztonnes, .ref zcosts, .ref zgiven, .ref zcutOff, .ref zgot, .ref zcutsOf, .int sm, .int mg])), (zreading, .inl (cI, 800, .inl RD))]) (fun (r : Int32) (u : Unit) => (∃ w y, (w < wk ∧ y < 20 ∧ a1 = nI w ∧ a2 = nI y) ∧ r = fouV RD w y) ∨ ((∀ w y, ¬ (w < wk ∧ y < 20 ∧ a1 = nI w ∧ a2 = nI y)) ∧ r = -1)) := by
  refine fx_CI.of (ws' := (wsX9_fouled).tail) cX9_fouled 8 (by decide) rfl (Nat.le_of_ble_eq_true rfl) ?_
  intro zp ze zs zm za zb zt zc zA ls zQ hQ hC hr hlk hA hH hl
  have zx := hC.1.1
  have zy := hC.1.2.1
  have hl : lv_has ls 8 [(0, .ref h), (1, .int a1), (2, .int a2)] := hl
  refine lv_aload_n zx zy dX9_fouled_0 rfl (lv_at hl 0 rfl) ?_
  refine lv_iload_n zx zy dX9_fouled_1 rfl (lv_at hl 1 rfl) ?_
  refine fx_cVi (n := 1) (As := [.int a1]) (b := h) (rest := []) (fun (u : Unit) => [(h, .inr (9, [.int (nI now), .int (nI wk), .ref zcoins, .ref zdebt, .ref zfines, .ref zreading, .int (nI rk), .ref zruleYear, .ref zruleWhat, .ref zruleShare, .int (nI k), .ref zstate, .ref zholder, .ref zyearOf, .ref zusedIn, .ref zprojectOf, .ref zwent, .int ii, .int (nI bk), .ref zbidWorks, .ref zbidMany, .ref zbidPrice, .int ac, .int (nI pj), .ref zisFalse, .ref zcutMany, .ref ztonnes, .ref zcosts, .ref zgiven, .ref zcutOff, .ref zgot, .ref zcutsOf, .int sm, .int mg])), (zreading, .inl (cI, 800, .inl RD))]) hC hA hH (k_X9_isWorks l D cI cZ h zcoins zdebt zfines zreading zruleYear zruleWhat zruleShare zstate zholder zyearOf zusedIn zprojectOf zwent zbidWorks zbidMany zbidPrice zisFalse zcutMany ztonnes zcosts zgiven zcutOff zgot zcutsOf now wk rk k ii bk ac pj sm mg a1 (by first | assumption | omega)) [0] [1] [1, 0] [(zreading, .inl (cI, 800, .inl RD))] rfl rfl (by decide) (by decide) (fun _ => rfl) rfl gX9_fouled_X9_isWorks (by decide +kernel) ⟨Nat.le_of_ble_eq_true rfl, Nat.le_of_ble_eq_true rfl⟩ 0 rfl rfl rfl rfl rfl hl.1 (Nat.le_of_ble_eq_true rfl) ⟨Nat.le_of_ble_eq_true rfl, Nat.le_of_ble_eq_true rfl⟩ dX9_fouled_2 (fun r1 u H locs hw2 hH => ?_)
  rcases hw2 with ⟨⟨j2, hj2, rfl⟩, rfl⟩ | ⟨hg2, rfl⟩
  · skip
    have hH := (hH : fx_H zA zs.heap H locs D [(h, .inr (9, [.int (nI now), .int (nI wk), .ref zcoins, .ref zdebt, .ref zfines, .ref zreading, .int (nI rk), .ref zruleYear, .ref zruleWhat, .ref zruleShare, .int (nI k), .ref zstate, .ref zholder, .ref zyearOf, .ref zusedIn, .ref zprojectOf, .ref zwent, .int ii, .int (nI bk), .ref zbidWorks, .ref zbidMany, .ref zbidPrice, .int ac, .int (nI pj), .ref zisFalse, .ref zcutMany, .ref ztonnes, .ref zcosts, .ref zgiven, .ref zcutOff, .ref zgot, .ref zcutsOf, .int sm, .int mg])), (zreading, .inl (cI, 800, .inl RD))])
    have hl := (hl : lv_has ls 8 [(0, .ref h), (1, .int (nI j2)), (2, .int a2)])
    refine lv_if_eq (tgt := 18) zx zy dX9_fouled_5 (by decide) (fun c5 => ?_) (fun c5 => ?_)
    · exact absurd c5 (by decide)
    · skip
      refine lv_iload_n zx zy dX9_fouled_8 rfl (lv_at hl 2 rfl) ?_
      refine lv_iconst (v := 0) zx zy dX9_fouled_9 (by decide) ?_
      refine lv_bipush (v := 19) zx zy dX9_fouled_10 (by decide) ?_
      refine fx_cSi (n := 3) (As := [.int a2, .int 0, .int 19]) (rest := []) hC hA hH (k_X9_in l D cI cZ a2 0 19) ⟨rfl, rfl⟩ rfl gX9_fouled_X9_in (by decide +kernel) ⟨Nat.le_of_ble_eq_true rfl, Nat.le_of_ble_eq_true rfl⟩ rfl rfl hl.1 (Nat.le_of_ble_eq_true rfl) ⟨(Nat.le_of_ble_eq_true rfl), (Nat.le_of_ble_eq_true rfl)⟩ dX9_fouled_12 (fun r2 H locs hw12 hH => ?_)
      rcases hw12 with ⟨hg12, rfl⟩ | ⟨hg12, rfl⟩
      · skip
        have hH := (hH : fx_H zA zs.heap H locs D [(h, .inr (9, [.int (nI now), .int (nI wk), .ref zcoins, .ref zdebt, .ref zfines, .ref zreading, .int (nI rk), .ref zruleYear, .ref zruleWhat, .ref zruleShare, .int (nI k), .ref zstate, .ref zholder, .ref zyearOf, .ref zusedIn, .ref zprojectOf, .ref zwent, .int ii, .int (nI bk), .ref zbidWorks, .ref zbidMany, .ref zbidPrice, .int ac, .int (nI pj), .ref zisFalse, .ref zcutMany, .ref ztonnes, .ref zcosts, .ref zgiven, .ref zcutOff, .ref zgot, .ref zcutsOf, .int sm, .int mg])), (zreading, .inl (cI, 800, .inl RD))])
        obtain ⟨q12, hq12, rfl⟩ := w_in (N := 19) (by omega) hg12.1 hg12.2
        have hl := (hl : lv_has ls 8 [(0, .ref h), (1, .int (nI j2)), (2, .int (nI q12))])
        refine lv_if_ne (tgt := 20) zx zy dX9_fouled_15 (by decide) (fun c15 => ?_) (fun c15 => ?_)
        · skip
          refine lv_aload_n zx zy dX9_fouled_20 rfl (lv_at hl 0 rfl) ?_
          refine lv_iload_n zx zy dX9_fouled_21 rfl (lv_at hl 1 rfl) ?_
          refine lv_iload_n zx zy dX9_fouled_22 rfl (lv_at hl 2 rfl) ?_
          refine fx_cVi (n := 2) (As := [.int (nI j2), .int (nI q12)]) (b := h) (rest := []) (fun (u : Unit) => [(h, .inr (9, [.int (nI now), .int (nI wk), .ref zcoins, .ref zdebt, .ref zfines, .ref zreading, .int (nI rk), .ref zruleYear, .ref zruleWhat, .ref zruleShare, .int (nI k), .ref zstate, .ref zholder, .ref zyearOf, .ref zusedIn, .ref zprojectOf, .ref zwent, .int ii, .int (nI bk), .ref zbidWorks, .ref zbidMany, .ref zbidPrice, .int ac, .int (nI pj), .ref zisFalse, .ref zcutMany, .ref ztonnes, .ref zcosts, .ref zgiven, .ref zcutOff, .ref zgot, .ref zcutsOf, .int sm, .int mg])), (zreading, .inl (cI, 800, .inl RD))]) hC hA hH (k_X9_greatest l D cI cZ h zcoins zdebt zfines zreading zruleYear zruleWhat zruleShare zstate zholder zyearOf zusedIn zprojectOf zwent zbidWorks zbidMany zbidPrice zisFalse zcutMany ztonnes zcosts zgiven zcutOff zgot zcutsOf now wk rk k ii bk ac pj sm mg RD j2 q12 (by first | assumption | omega) (by first | assumption | omega)) [0, 1] [] [0, 1] [] rfl rfl (by decide) (by decide) (fun _ => rfl) rfl gX9_fouled_X9_greatest (by decide +kernel) ⟨Nat.le_of_ble_eq_true rfl, Nat.le_of_ble_eq_true rfl⟩ 0 rfl rfl rfl rfl rfl hl.1 (Nat.le_of_ble_eq_true rfl) ⟨Nat.le_of_ble_eq_true rfl, Nat.le_of_ble_eq_true rfl⟩ dX9_fouled_23 (fun r3 u H locs hw23 hH => ?_)
          obtain rfl : r3 = gapT RD j2 q12 := hw23
          have hH := (hH : fx_H zA zs.heap H locs D [(h, .inr (9, [.int (nI now), .int (nI wk), .ref zcoins, .ref zdebt, .ref zfines, .ref zreading, .int (nI rk), .ref zruleYear, .ref zruleWhat, .ref zruleShare, .int (nI k), .ref zstate, .ref zholder, .ref zyearOf, .ref zusedIn, .ref zprojectOf, .ref zwent, .int ii, .int (nI bk), .ref zbidWorks, .ref zbidMany, .ref zbidPrice, .int ac, .int (nI pj), .ref zisFalse, .ref zcutMany, .ref ztonnes, .ref zcosts, .ref zgiven, .ref zcutOff, .ref zgot, .ref zcutsOf, .int sm, .int mg])), (zreading, .inl (cI, 800, .inl RD))])
          refine lv_istore_n (lv' := [(3, .int (gapT RD j2 q12)), (0, .ref h), (1, .int (nI j2)), (2, .int (nI q12))]) zx zy dX9_fouled_26 rfl hl (by decide) rfl (fun ls hl => ?_)
          refine lv_iload_n zx zy dX9_fouled_27 rfl (lv_at hl 0 rfl) ?_
          refine lv_iconst (v := (-1)) zx zy dX9_fouled_28 (by decide) ?_
          refine lv_icmp_ne (tgt := 37) zx zy dX9_fouled_29 (by decide) (fun c29 => ?_) (fun c29 => ?_)
          · skip
            refine lv_iload_n zx zy dX9_fouled_37 rfl (lv_at hl 0 rfl) ?_
            refine lv_bipush (v := 110) zx zy dX9_fouled_38 (by decide) ?_
            refine lv_imul zx zy dX9_fouled_40 ?_
            refine lv_bipush (v := 99) zx zy dX9_fouled_41 (by decide) ?_
            refine lv_iadd zx zy dX9_fouled_43 ?_
            refine lv_bipush (v := 100) zx zy dX9_fouled_44 (by decide) ?_
            refine lv_idiv zx zy dX9_fouled_46 (by decide) ?_
            refine lv_istore (lv' := [(4, .int ((((gapT RD j2 q12) * 110) + 99) / 100)), (3, .int (gapT RD j2 q12)), (0, .ref h), (1, .int (nI j2)), (2, .int (nI q12))]) zx zy dX9_fouled_47 hl (by decide) rfl (fun ls hl => ?_)
            refine lv_iload zx zy dX9_fouled_49 (lv_at hl 0 rfl) ?_
            refine lv_if_ne (tgt := 57) zx zy dX9_fouled_51 (by decide) (fun c51 => ?_) (fun c51 => ?_)
            · skip
              refine lv_iconst (v := 0) zx zy dX9_fouled_57 (by decide) ?_
              refine lv_istore (lv' := [(5, .int 0), (4, .int ((((gapT RD j2 q12) * 110) + 99) / 100)), (3, .int (gapT RD j2 q12)), (0, .ref h), (1, .int (nI j2)), (2, .int (nI q12))]) zx zy dX9_fouled_58 hl (by decide) rfl (fun ls hl => ?_)
              refine lv_iconst (v := 0) zx zy dX9_fouled_60 (by decide) ?_
              refine lv_topi (fun v4 ev4 => ?_)
              obtain rfl : v4 = nI 0 := ev4.trans (rfl)
              refine lv_istore (lv' := [(6, .int (nI 0)), (5, .int 0), (4, .int ((((gapT RD j2 q12) * 110) + 99) / 100)), (3, .int (gapT RD j2 q12)), (0, .ref h), (1, .int (nI j2)), (2, .int (nI q12))]) zx zy dX9_fouled_61 hl (by decide) rfl (fun ls hl => ?_)
              have L63 : ∀ (fu : Nat) (q : Nat) (s5 : Int32) (g : Int32) (hq : q ≤ 4) (hgv : g = gapV RD j2 q12) (hs : s5 = fouS RD (gapV RD j2 q12) ((j2 * 20 + q12) * 4) q) (H : Heap) (locs : List Loc) (ls : Array Slot), 4 - q < fu → fx_H zA zs.heap H locs D [(h, .inr (9, [.int (nI now), .int (nI wk), .ref zcoins, .ref zdebt, .ref zfines, .ref zreading, .int (nI rk), .ref zruleYear, .ref zruleWhat, .ref zruleShare, .int (nI k), .ref zstate, .ref zholder, .ref zyearOf, .ref zusedIn, .ref zprojectOf, .ref zwent, .int ii, .int (nI bk), .ref zbidWorks, .ref zbidMany, .ref zbidPrice, .int ac, .int (nI pj), .ref zisFalse, .ref zcutMany, .ref ztonnes, .ref zcosts, .ref zgiven, .ref zcutOff, .ref zgot, .ref zcutsOf, .int sm, .int mg])), (zreading, .inl (cI, 800, .inl RD))] → lv_has ls 8 [(0, .ref h), (1, .int (nI j2)), (2, .int (nI q12)), (4, .int g), (5, .int s5), (6, .int (nI q))] → W zp l ze ({ frames := 2, cells := 0, slots := 0, locals := 43 }) zs zm za zb zt zc H locs (0) (0) zQ (F0 zm 63 ls []) := by
                intro fu
                induction fu with
                | zero => intro q s5 g hq hgv hs H locs ls hfu; exact absurd hfu (Nat.not_lt_zero _)
                | succ fu ih63 =>
                  intro q s5 g hq hgv hs H locs ls hfu63 hH hl
                  refine lv_iload zx zy dX9_fouled_63 (lv_at hl 5 rfl) ?_
                  refine lv_iconst (v := 4) zx zy dX9_fouled_65 (by decide) ?_
                  refine lv_icmp_ge (tgt := 111) zx zy dX9_fouled_66 (by decide) (fun c66 => ?_) (fun c66 => ?_)
                  · skip
                    have hq4 : q = 4 := Nat.le_antisymm hq (fx_le_of (a := 4) c66 (by omega) (by omega))
                    refine lv_iload zx zy dX9_fouled_111 (lv_at hl 4 rfl) ?_
                    exact fx_iret (v := s5) hQ hC hr hlk hH dX9_fouled_113 rfl (Nat.le_of_ble_eq_true rfl) (Nat.le_of_ble_eq_true rfl) (()) rfl (Or.inl ⟨j2, q12, ⟨hj2, hq12, rfl, rfl⟩, by rw [hs, hq4]; rfl⟩)
                  · skip
                    have hlt : q < 4 := fx_lt_of (b := 4) c66 (by omega)
                    refine lv_aload_n zx zy dX9_fouled_69 rfl (lv_at hl 0 rfl) ?_
                    refine fx_get (C := RX9) (T := TX9) (N := 34) hC (fun _ h => List.mem_cons_of_mem _ (List.mem_append_right _ h)) hH 0 rfl rfl 5 (by decide) (by decide +kernel) rfl dX9_fouled_70 ?_
                    refine lv_iconst (v := 4) zx zy dX9_fouled_73 (by decide) ?_
                    refine lv_bipush (v := 20) zx zy dX9_fouled_74 (by decide) ?_
                    refine lv_iload_n zx zy dX9_fouled_76 rfl (lv_at hl 1 rfl) ?_
                    refine lv_imul zx zy dX9_fouled_77 ?_
                    refine lv_iload_n zx zy dX9_fouled_78 rfl (lv_at hl 2 rfl) ?_
                    refine lv_iadd zx zy dX9_fouled_79 ?_
                    refine lv_imul zx zy dX9_fouled_80 ?_
                    refine lv_iload zx zy dX9_fouled_81 (lv_at hl 5 rfl) ?_
                    refine lv_iadd zx zy dX9_fouled_83 ?_
                    refine lv_topi (fun v5 ev5 => ?_)
                    obtain rfl : v5 = nI ((j2 * 20 + q12) * 4 + q) := ev5.trans (pl4 j2 q12 q)
                    refine fx_ild hC hH 1 rfl (vp_in_nI (by omega) (by omega)) dX9_fouled_84 ?_
                    refine lv_topi (fun v6 ev6 => ?_)
                    obtain rfl : v6 = RD ((j2 * 20 + q12) * 4 + q) := ev6.trans (congrArg RD (nI_clamp (by omega)))
                    refine lv_istore (lv' := [(7, .int (RD ((j2 * 20 + q12) * 4 + q))), (0, .ref h), (1, .int (nI j2)), (2, .int (nI q12)), (4, .int g), (5, .int s5), (6, .int (nI q))]) zx zy dX9_fouled_85 hl (by decide) rfl (fun ls hl => ?_)
                    refine lv_iload zx zy dX9_fouled_87 (lv_at hl 5 rfl) ?_
                    refine lv_iload zx zy dX9_fouled_89 (lv_at hl 0 rfl) ?_
                    refine lv_iconst (v := (-1)) zx zy dX9_fouled_91 (by decide) ?_
                    refine lv_icmp_ne (tgt := 100) zx zy dX9_fouled_92 (by decide) (fun c92 => ?_) (fun c92 => ?_)
                    · skip
                      refine lv_iload zx zy dX9_fouled_100 (lv_at hl 0 rfl) ?_
                      refine lv_iadd zx zy dX9_fouled_102 ?_
                      refine lv_istore (lv' := [(5, .int (s5 + (RD ((j2 * 20 + q12) * 4 + q)))), (7, .int (RD ((j2 * 20 + q12) * 4 + q))), (0, .ref h), (1, .int (nI j2)), (2, .int (nI q12)), (4, .int g), (6, .int (nI q))]) zx zy dX9_fouled_103 hl (by decide) rfl (fun ls hl => ?_)
                      refine lv_iinc (v := nI (q + 1)) (lv' := [(6, .int (nI (q + 1))), (5, .int (s5 + (RD ((j2 * 20 + q12) * 4 + q)))), (7, .int (RD ((j2 * 20 + q12) * 4 + q))), (0, .ref h), (1, .int (nI j2)), (2, .int (nI q12)), (4, .int g)]) zx zy dX9_fouled_105 hl (k := 6) rfl (nI_1 _) (by decide) rfl (fun ls hl => ?_)
                      refine lv_goto (tgt := 63) zx zy dX9_fouled_108 (by decide) ?_
                      exact ih63 (q + 1) (s5 + (RD ((j2 * 20 + q12) * 4 + q))) g (by first | assumption | omega) (by first | assumption | omega) (by subst hs; subst hgv; first | (simp only [fouS, if_pos c92]; done) | (simp only [fouS, if_neg c92]; done)) _ _ _ (by omega) hH (lv_sub hl [3, 4, 5, 6, 1, 0] rfl)
                    · skip
                      refine lv_iload zx zy dX9_fouled_95 (lv_at hl 4 rfl) ?_
                      refine lv_goto (tgt := 102) zx zy dX9_fouled_97 (by decide) ?_
                      refine lv_iadd zx zy dX9_fouled_102 ?_
                      refine lv_istore (lv' := [(5, .int (s5 + g)), (7, .int (RD ((j2 * 20 + q12) * 4 + q))), (0, .ref h), (1, .int (nI j2)), (2, .int (nI q12)), (4, .int g), (6, .int (nI q))]) zx zy dX9_fouled_103 hl (by decide) rfl (fun ls hl => ?_)
                      refine lv_iinc (v := nI (q + 1)) (lv' := [(6, .int (nI (q + 1))), (5, .int (s5 + g)), (7, .int (RD ((j2 * 20 + q12) * 4 + q))), (0, .ref h), (1, .int (nI j2)), (2, .int (nI q12)), (4, .int g)]) zx zy dX9_fouled_105 hl (k := 6) rfl (nI_1 _) (by decide) rfl (fun ls hl => ?_)
                      refine lv_goto (tgt := 63) zx zy dX9_fouled_108 (by decide) ?_
                      exact ih63 (q + 1) (s5 + g) g (by first | assumption | omega) (by first | assumption | omega) (by subst hs; subst hgv; first | (simp only [fouS, if_pos c92]; done) | (simp only [fouS, if_neg c92]; done)) _ _ _ (by omega) hH (lv_sub hl [3, 4, 5, 6, 1, 0] rfl)
              exact L63 _ 0 0 ((((gapT RD j2 q12) * 110) + 99) / 100) (by first | assumption | omega) (by first | exact gp_a c29 | exact gp_b (gapT_ix (by omega) (by omega) hRD) c29 c51 | exact gp_c c29 c51) (rfl) _ _ _ (Nat.lt_succ_self _) hH (lv_sub hl [4, 5, 6, 2, 1, 0] rfl)
            · skip
              refine lv_iconst (v := 1) zx zy dX9_fouled_54 (by decide) ?_
              refine lv_istore (lv' := [(4, .int 1), (3, .int (gapT RD j2 q12)), (0, .ref h), (1, .int (nI j2)), (2, .int (nI q12))]) zx zy dX9_fouled_55 hl (by decide) rfl (fun ls hl => ?_)
              refine lv_iconst (v := 0) zx zy dX9_fouled_57 (by decide) ?_
              refine lv_istore (lv' := [(5, .int 0), (4, .int 1), (3, .int (gapT RD j2 q12)), (0, .ref h), (1, .int (nI j2)), (2, .int (nI q12))]) zx zy dX9_fouled_58 hl (by decide) rfl (fun ls hl => ?_)
              refine lv_iconst (v := 0) zx zy dX9_fouled_60 (by decide) ?_
              refine lv_topi (fun v7 ev7 => ?_)
              obtain rfl : v7 = nI 0 := ev7.trans (rfl)
              refine lv_istore (lv' := [(6, .int (nI 0)), (5, .int 0), (4, .int 1), (3, .int (gapT RD j2 q12)), (0, .ref h), (1, .int (nI j2)), (2, .int (nI q12))]) zx zy dX9_fouled_61 hl (by decide) rfl (fun ls hl => ?_)
              have L63 : ∀ (fu : Nat) (q : Nat) (s5 : Int32) (g : Int32) (hq : q ≤ 4) (hgv : g = gapV RD j2 q12) (hs : s5 = fouS RD (gapV RD j2 q12) ((j2 * 20 + q12) * 4) q) (H : Heap) (locs : List Loc) (ls : Array Slot), 4 - q < fu → fx_H zA zs.heap H locs D [(h, .inr (9, [.int (nI now), .int (nI wk), .ref zcoins, .ref zdebt, .ref zfines, .ref zreading, .int (nI rk), .ref zruleYear, .ref zruleWhat, .ref zruleShare, .int (nI k), .ref zstate, .ref zholder, .ref zyearOf, .ref zusedIn, .ref zprojectOf, .ref zwent, .int ii, .int (nI bk), .ref zbidWorks, .ref zbidMany, .ref zbidPrice, .int ac, .int (nI pj), .ref zisFalse, .ref zcutMany, .ref ztonnes, .ref zcosts, .ref zgiven, .ref zcutOff, .ref zgot, .ref zcutsOf, .int sm, .int mg])), (zreading, .inl (cI, 800, .inl RD))] → lv_has ls 8 [(0, .ref h), (1, .int (nI j2)), (2, .int (nI q12)), (4, .int g), (5, .int s5), (6, .int (nI q))] → W zp l ze ({ frames := 2, cells := 0, slots := 0, locals := 43 }) zs zm za zb zt zc H locs (0) (0) zQ (F0 zm 63 ls []) := by
                intro fu
                induction fu with
                | zero => intro q s5 g hq hgv hs H locs ls hfu; exact absurd hfu (Nat.not_lt_zero _)
                | succ fu ih63 =>
                  intro q s5 g hq hgv hs H locs ls hfu63 hH hl
                  refine lv_iload zx zy dX9_fouled_63 (lv_at hl 5 rfl) ?_
                  refine lv_iconst (v := 4) zx zy dX9_fouled_65 (by decide) ?_
                  refine lv_icmp_ge (tgt := 111) zx zy dX9_fouled_66 (by decide) (fun c66 => ?_) (fun c66 => ?_)
                  · skip
                    have hq4 : q = 4 := Nat.le_antisymm hq (fx_le_of (a := 4) c66 (by omega) (by omega))
                    refine lv_iload zx zy dX9_fouled_111 (lv_at hl 4 rfl) ?_
                    exact fx_iret (v := s5) hQ hC hr hlk hH dX9_fouled_113 rfl (Nat.le_of_ble_eq_true rfl) (Nat.le_of_ble_eq_true rfl) (()) rfl (Or.inl ⟨j2, q12, ⟨hj2, hq12, rfl, rfl⟩, by rw [hs, hq4]; rfl⟩)
                  · skip
                    have hlt : q < 4 := fx_lt_of (b := 4) c66 (by omega)
                    refine lv_aload_n zx zy dX9_fouled_69 rfl (lv_at hl 0 rfl) ?_
                    refine fx_get (C := RX9) (T := TX9) (N := 34) hC (fun _ h => List.mem_cons_of_mem _ (List.mem_append_right _ h)) hH 0 rfl rfl 5 (by decide) (by decide +kernel) rfl dX9_fouled_70 ?_
                    refine lv_iconst (v := 4) zx zy dX9_fouled_73 (by decide) ?_
                    refine lv_bipush (v := 20) zx zy dX9_fouled_74 (by decide) ?_
                    refine lv_iload_n zx zy dX9_fouled_76 rfl (lv_at hl 1 rfl) ?_
                    refine lv_imul zx zy dX9_fouled_77 ?_
                    refine lv_iload_n zx zy dX9_fouled_78 rfl (lv_at hl 2 rfl) ?_
                    refine lv_iadd zx zy dX9_fouled_79 ?_
                    refine lv_imul zx zy dX9_fouled_80 ?_
                    refine lv_iload zx zy dX9_fouled_81 (lv_at hl 5 rfl) ?_
                    refine lv_iadd zx zy dX9_fouled_83 ?_
                    refine lv_topi (fun v8 ev8 => ?_)
                    obtain rfl : v8 = nI ((j2 * 20 + q12) * 4 + q) := ev8.trans (pl4 j2 q12 q)
                    refine fx_ild hC hH 1 rfl (vp_in_nI (by omega) (by omega)) dX9_fouled_84 ?_
                    refine lv_topi (fun v9 ev9 => ?_)
                    obtain rfl : v9 = RD ((j2 * 20 + q12) * 4 + q) := ev9.trans (congrArg RD (nI_clamp (by omega)))
                    refine lv_istore (lv' := [(7, .int (RD ((j2 * 20 + q12) * 4 + q))), (0, .ref h), (1, .int (nI j2)), (2, .int (nI q12)), (4, .int g), (5, .int s5), (6, .int (nI q))]) zx zy dX9_fouled_85 hl (by decide) rfl (fun ls hl => ?_)
                    refine lv_iload zx zy dX9_fouled_87 (lv_at hl 5 rfl) ?_
                    refine lv_iload zx zy dX9_fouled_89 (lv_at hl 0 rfl) ?_
                    refine lv_iconst (v := (-1)) zx zy dX9_fouled_91 (by decide) ?_
                    refine lv_icmp_ne (tgt := 100) zx zy dX9_fouled_92 (by decide) (fun c92 => ?_) (fun c92 => ?_)
                    · skip
                      refine lv_iload zx zy dX9_fouled_100 (lv_at hl 0 rfl) ?_
                      refine lv_iadd zx zy dX9_fouled_102 ?_
                      refine lv_istore (lv' := [(5, .int (s5 + (RD ((j2 * 20 + q12) * 4 + q)))), (7, .int (RD ((j2 * 20 + q12) * 4 + q))), (0, .ref h), (1, .int (nI j2)), (2, .int (nI q12)), (4, .int g), (6, .int (nI q))]) zx zy dX9_fouled_103 hl (by decide) rfl (fun ls hl => ?_)
                      refine lv_iinc (v := nI (q + 1)) (lv' := [(6, .int (nI (q + 1))), (5, .int (s5 + (RD ((j2 * 20 + q12) * 4 + q)))), (7, .int (RD ((j2 * 20 + q12) * 4 + q))), (0, .ref h), (1, .int (nI j2)), (2, .int (nI q12)), (4, .int g)]) zx zy dX9_fouled_105 hl (k := 6) rfl (nI_1 _) (by decide) rfl (fun ls hl => ?_)
                      refine lv_goto (tgt := 63) zx zy dX9_fouled_108 (by decide) ?_
                      exact ih63 (q + 1) (s5 + (RD ((j2 * 20 + q12) * 4 + q))) g (by first | assumption | omega) (by first | assumption | omega) (by subst hs; subst hgv; first | (simp only [fouS, if_pos c92]; done) | (simp only [fouS, if_neg c92]; done)) _ _ _ (by omega) hH (lv_sub hl [3, 4, 5, 6, 1, 0] rfl)
                    · skip
                      refine lv_iload zx zy dX9_fouled_95 (lv_at hl 4 rfl) ?_
                      refine lv_goto (tgt := 102) zx zy dX9_fouled_97 (by decide) ?_
                      refine lv_iadd zx zy dX9_fouled_102 ?_
                      refine lv_istore (lv' := [(5, .int (s5 + g)), (7, .int (RD ((j2 * 20 + q12) * 4 + q))), (0, .ref h), (1, .int (nI j2)), (2, .int (nI q12)), (4, .int g), (6, .int (nI q))]) zx zy dX9_fouled_103 hl (by decide) rfl (fun ls hl => ?_)
                      refine lv_iinc (v := nI (q + 1)) (lv' := [(6, .int (nI (q + 1))), (5, .int (s5 + g)), (7, .int (RD ((j2 * 20 + q12) * 4 + q))), (0, .ref h), (1, .int (nI j2)), (2, .int (nI q12)), (4, .int g)]) zx zy dX9_fouled_105 hl (k := 6) rfl (nI_1 _) (by decide) rfl (fun ls hl => ?_)
                      refine lv_goto (tgt := 63) zx zy dX9_fouled_108 (by decide) ?_
                      exact ih63 (q + 1) (s5 + g) g (by first | assumption | omega) (by first | assumption | omega) (by subst hs; subst hgv; first | (simp only [fouS, if_pos c92]; done) | (simp only [fouS, if_neg c92]; done)) _ _ _ (by omega) hH (lv_sub hl [3, 4, 5, 6, 1, 0] rfl)
              exact L63 _ 0 0 1 (by first | assumption | omega) (by first | exact gp_a c29 | exact gp_b (gapT_ix (by omega) (by omega) hRD) c29 c51 | exact gp_c c29 c51) (rfl) _ _ _ (Nat.lt_succ_self _) hH (lv_sub hl [4, 5, 6, 2, 1, 0] rfl)
          · skip
            refine lv_bipush (v := 10) zx zy dX9_fouled_32 (by decide) ?_
            refine lv_goto (tgt := 47) zx zy dX9_fouled_34 (by decide) ?_
            refine lv_istore (lv' := [(4, .int 10), (3, .int (gapT RD j2 q12)), (0, .ref h), (1, .int (nI j2)), (2, .int (nI q12))]) zx zy dX9_fouled_47 hl (by decide) rfl (fun ls hl => ?_)
            refine lv_iload zx zy dX9_fouled_49 (lv_at hl 0 rfl) ?_
            refine lv_if_ne (tgt := 57) zx zy dX9_fouled_51 (by decide) (fun c51 => ?_) (fun c51 => ?_)
            · skip
              refine lv_iconst (v := 0) zx zy dX9_fouled_57 (by decide) ?_
              refine lv_istore (lv' := [(5, .int 0), (4, .int 10), (3, .int (gapT RD j2 q12)), (0, .ref h), (1, .int (nI j2)), (2, .int (nI q12))]) zx zy dX9_fouled_58 hl (by decide) rfl (fun ls hl => ?_)
              refine lv_iconst (v := 0) zx zy dX9_fouled_60 (by decide) ?_
              refine lv_topi (fun v10 ev10 => ?_)
              obtain rfl : v10 = nI 0 := ev10.trans (rfl)
              refine lv_istore (lv' := [(6, .int (nI 0)), (5, .int 0), (4, .int 10), (3, .int (gapT RD j2 q12)), (0, .ref h), (1, .int (nI j2)), (2, .int (nI q12))]) zx zy dX9_fouled_61 hl (by decide) rfl (fun ls hl => ?_)
              have L63 : ∀ (fu : Nat) (q : Nat) (s5 : Int32) (g : Int32) (hq : q ≤ 4) (hgv : g = gapV RD j2 q12) (hs : s5 = fouS RD (gapV RD j2 q12) ((j2 * 20 + q12) * 4) q) (H : Heap) (locs : List Loc) (ls : Array Slot), 4 - q < fu → fx_H zA zs.heap H locs D [(h, .inr (9, [.int (nI now), .int (nI wk), .ref zcoins, .ref zdebt, .ref zfines, .ref zreading, .int (nI rk), .ref zruleYear, .ref zruleWhat, .ref zruleShare, .int (nI k), .ref zstate, .ref zholder, .ref zyearOf, .ref zusedIn, .ref zprojectOf, .ref zwent, .int ii, .int (nI bk), .ref zbidWorks, .ref zbidMany, .ref zbidPrice, .int ac, .int (nI pj), .ref zisFalse, .ref zcutMany, .ref ztonnes, .ref zcosts, .ref zgiven, .ref zcutOff, .ref zgot, .ref zcutsOf, .int sm, .int mg])), (zreading, .inl (cI, 800, .inl RD))] → lv_has ls 8 [(0, .ref h), (1, .int (nI j2)), (2, .int (nI q12)), (4, .int g), (5, .int s5), (6, .int (nI q))] → W zp l ze ({ frames := 2, cells := 0, slots := 0, locals := 43 }) zs zm za zb zt zc H locs (0) (0) zQ (F0 zm 63 ls []) := by
                intro fu
                induction fu with
                | zero => intro q s5 g hq hgv hs H locs ls hfu; exact absurd hfu (Nat.not_lt_zero _)
                | succ fu ih63 =>
                  intro q s5 g hq hgv hs H locs ls hfu63 hH hl
                  refine lv_iload zx zy dX9_fouled_63 (lv_at hl 5 rfl) ?_
                  refine lv_iconst (v := 4) zx zy dX9_fouled_65 (by decide) ?_
                  refine lv_icmp_ge (tgt := 111) zx zy dX9_fouled_66 (by decide) (fun c66 => ?_) (fun c66 => ?_)
                  · skip
                    have hq4 : q = 4 := Nat.le_antisymm hq (fx_le_of (a := 4) c66 (by omega) (by omega))
                    refine lv_iload zx zy dX9_fouled_111 (lv_at hl 4 rfl) ?_
                    exact fx_iret (v := s5) hQ hC hr hlk hH dX9_fouled_113 rfl (Nat.le_of_ble_eq_true rfl) (Nat.le_of_ble_eq_true rfl) (()) rfl (Or.inl ⟨j2, q12, ⟨hj2, hq12, rfl, rfl⟩, by rw [hs, hq4]; rfl⟩)
                  · skip
                    have hlt : q < 4 := fx_lt_of (b := 4) c66 (by omega)
                    refine lv_aload_n zx zy dX9_fouled_69 rfl (lv_at hl 0 rfl) ?_
                    refine fx_get (C := RX9) (T := TX9) (N := 34) hC (fun _ h => List.mem_cons_of_mem _ (List.mem_append_right _ h)) hH 0 rfl rfl 5 (by decide) (by decide +kernel) rfl dX9_fouled_70 ?_
                    refine lv_iconst (v := 4) zx zy dX9_fouled_73 (by decide) ?_
                    refine lv_bipush (v := 20) zx zy dX9_fouled_74 (by decide) ?_
                    refine lv_iload_n zx zy dX9_fouled_76 rfl (lv_at hl 1 rfl) ?_
                    refine lv_imul zx zy dX9_fouled_77 ?_
                    refine lv_iload_n zx zy dX9_fouled_78 rfl (lv_at hl 2 rfl) ?_
                    refine lv_iadd zx zy dX9_fouled_79 ?_
                    refine lv_imul zx zy dX9_fouled_80 ?_
                    refine lv_iload zx zy dX9_fouled_81 (lv_at hl 5 rfl) ?_
                    refine lv_iadd zx zy dX9_fouled_83 ?_
                    refine lv_topi (fun v11 ev11 => ?_)
                    obtain rfl : v11 = nI ((j2 * 20 + q12) * 4 + q) := ev11.trans (pl4 j2 q12 q)
                    refine fx_ild hC hH 1 rfl (vp_in_nI (by omega) (by omega)) dX9_fouled_84 ?_
                    refine lv_topi (fun v12 ev12 => ?_)
                    obtain rfl : v12 = RD ((j2 * 20 + q12) * 4 + q) := ev12.trans (congrArg RD (nI_clamp (by omega)))
                    refine lv_istore (lv' := [(7, .int (RD ((j2 * 20 + q12) * 4 + q))), (0, .ref h), (1, .int (nI j2)), (2, .int (nI q12)), (4, .int g), (5, .int s5), (6, .int (nI q))]) zx zy dX9_fouled_85 hl (by decide) rfl (fun ls hl => ?_)
                    refine lv_iload zx zy dX9_fouled_87 (lv_at hl 5 rfl) ?_
                    refine lv_iload zx zy dX9_fouled_89 (lv_at hl 0 rfl) ?_
                    refine lv_iconst (v := (-1)) zx zy dX9_fouled_91 (by decide) ?_
                    refine lv_icmp_ne (tgt := 100) zx zy dX9_fouled_92 (by decide) (fun c92 => ?_) (fun c92 => ?_)
                    · skip
                      refine lv_iload zx zy dX9_fouled_100 (lv_at hl 0 rfl) ?_
                      refine lv_iadd zx zy dX9_fouled_102 ?_
                      refine lv_istore (lv' := [(5, .int (s5 + (RD ((j2 * 20 + q12) * 4 + q)))), (7, .int (RD ((j2 * 20 + q12) * 4 + q))), (0, .ref h), (1, .int (nI j2)), (2, .int (nI q12)), (4, .int g), (6, .int (nI q))]) zx zy dX9_fouled_103 hl (by decide) rfl (fun ls hl => ?_)
                      refine lv_iinc (v := nI (q + 1)) (lv' := [(6, .int (nI (q + 1))), (5, .int (s5 + (RD ((j2 * 20 + q12) * 4 + q)))), (7, .int (RD ((j2 * 20 + q12) * 4 + q))), (0, .ref h), (1, .int (nI j2)), (2, .int (nI q12)), (4, .int g)]) zx zy dX9_fouled_105 hl (k := 6) rfl (nI_1 _) (by decide) rfl (fun ls hl => ?_)
                      refine lv_goto (tgt := 63) zx zy dX9_fouled_108 (by decide) ?_
                      exact ih63 (q + 1) (s5 + (RD ((j2 * 20 + q12) * 4 + q))) g (by first | assumption | omega) (by first | assumption | omega) (by subst hs; subst hgv; first | (simp only [fouS, if_pos c92]; done) | (simp only [fouS, if_neg c92]; done)) _ _ _ (by omega) hH (lv_sub hl [3, 4, 5, 6, 1, 0] rfl)
                    · skip
                      refine lv_iload zx zy dX9_fouled_95 (lv_at hl 4 rfl) ?_
                      refine lv_goto (tgt := 102) zx zy dX9_fouled_97 (by decide) ?_
                      refine lv_iadd zx zy dX9_fouled_102 ?_
                      refine lv_istore (lv' := [(5, .int (s5 + g)), (7, .int (RD ((j2 * 20 + q12) * 4 + q))), (0, .ref h), (1, .int (nI j2)), (2, .int (nI q12)), (4, .int g), (6, .int (nI q))]) zx zy dX9_fouled_103 hl (by decide) rfl (fun ls hl => ?_)
                      refine lv_iinc (v := nI (q + 1)) (lv' := [(6, .int (nI (q + 1))), (5, .int (s5 + g)), (7, .int (RD ((j2 * 20 + q12) * 4 + q))), (0, .ref h), (1, .int (nI j2)), (2, .int (nI q12)), (4, .int g)]) zx zy dX9_fouled_105 hl (k := 6) rfl (nI_1 _) (by decide) rfl (fun ls hl => ?_)
                      refine lv_goto (tgt := 63) zx zy dX9_fouled_108 (by decide) ?_
                      exact ih63 (q + 1) (s5 + g) g (by first | assumption | omega) (by first | assumption | omega) (by subst hs; subst hgv; first | (simp only [fouS, if_pos c92]; done) | (simp only [fouS, if_neg c92]; done)) _ _ _ (by omega) hH (lv_sub hl [3, 4, 5, 6, 1, 0] rfl)
              exact L63 _ 0 0 10 (by first | assumption | omega) (by first | exact gp_a c29 | exact gp_b (gapT_ix (by omega) (by omega) hRD) c29 c51 | exact gp_c c29 c51) (rfl) _ _ _ (Nat.lt_succ_self _) hH (lv_sub hl [4, 5, 6, 2, 1, 0] rfl)
            · exact absurd c51 (by decide)
        · exact absurd c15 (by decide)
      · skip
        have hH := (hH : fx_H zA zs.heap H locs D [(h, .inr (9, [.int (nI now), .int (nI wk), .ref zcoins, .ref zdebt, .ref zfines, .ref zreading, .int (nI rk), .ref zruleYear, .ref zruleWhat, .ref zruleShare, .int (nI k), .ref zstate, .ref zholder, .ref zyearOf, .ref zusedIn, .ref zprojectOf, .ref zwent, .int ii, .int (nI bk), .ref zbidWorks, .ref zbidMany, .ref zbidPrice, .int ac, .int (nI pj), .ref zisFalse, .ref zcutMany, .ref ztonnes, .ref zcosts, .ref zgiven, .ref zcutOff, .ref zgot, .ref zcutsOf, .int sm, .int mg])), (zreading, .inl (cI, 800, .inl RD))])
        refine lv_if_ne (tgt := 20) zx zy dX9_fouled_15 (by decide) (fun c15 => ?_) (fun c15 => ?_)
        · exact absurd c15 (by decide)
        · skip
          refine lv_iconst (v := (-1)) zx zy dX9_fouled_18 (by decide) ?_
          exact fx_iret (v := (-1)) hQ hC hr hlk hH dX9_fouled_19 rfl (Nat.le_of_ble_eq_true rfl) (Nat.le_of_ble_eq_true rfl) (()) rfl (Or.inr ⟨fun w y z => by first | exact hg2 ⟨w, z.1, z.2.2.1⟩ | exact w_out (N := 19) (by omega) hg12 ⟨y, z.2.1, z.2.2.2⟩, rfl⟩)
  · skip
    have hH := (hH : fx_H zA zs.heap H locs D [(h, .inr (9, [.int (nI now), .int (nI wk), .ref zcoins, .ref zdebt, .ref zfines, .ref zreading, .int (nI rk), .ref zruleYear, .ref zruleWhat, .ref zruleShare, .int (nI k), .ref zstate, .ref zholder, .ref zyearOf, .ref zusedIn, .ref zprojectOf, .ref zwent, .int ii, .int (nI bk), .ref zbidWorks, .ref zbidMany, .ref zbidPrice, .int ac, .int (nI pj), .ref zisFalse, .ref zcutMany, .ref ztonnes, .ref zcosts, .ref zgiven, .ref zcutOff, .ref zgot, .ref zcutsOf, .int sm, .int mg])), (zreading, .inl (cI, 800, .inl RD))])
    refine lv_if_eq (tgt := 18) zx zy dX9_fouled_5 (by decide) (fun c5 => ?_) (fun c5 => ?_)
    · skip
      refine lv_iconst (v := (-1)) zx zy dX9_fouled_18 (by decide) ?_
      exact fx_iret (v := (-1)) hQ hC hr hlk hH dX9_fouled_19 rfl (Nat.le_of_ble_eq_true rfl) (Nat.le_of_ble_eq_true rfl) (()) rfl (Or.inr ⟨fun w y z => by first | exact hg2 ⟨w, z.1, z.2.2.1⟩ | exact w_out (N := 19) (by omega) hg12 ⟨y, z.2.1, z.2.2.2⟩, rfl⟩)
    · exact absurd c5 (by decide)
set_option maxHeartbeats 4000000 in
set_option maxRecDepth 100000 in
theorem k_X9_fouled_f (l : Launch) (D : va_G) (cI cZ : ClassId) (h : Nat) (zcoins : Nat) (zdebt : Nat) (zfines : Nat) (zreading : Nat) (zruleYear : Nat) (zruleWhat : Nat) (zruleShare : Nat) (zstate : Nat) (zholder : Nat) (zyearOf : Nat) (zusedIn : Nat) (zprojectOf : Nat) (zwent : Nat) (zbidWorks : Nat) (zbidMany : Nat) (zbidPrice : Nat) (zisFalse : Nat) (zcutMany : Nat) (ztonnes : Nat) (zcosts : Nat) (zgiven : Nat) (zcutOff : Nat) (zgot : Nat) (zcutsOf : Nat) (now : Nat) (wk : Nat) (rk : Nat) (k : Nat) (ii : Int32) (bk : Nat) (ac : Int32) (pj : Nat) (sm : Int32) (mg : Int32) (RD : Nat → Int32) (w : Nat) (y : Nat) (hwk : wk ≤ 10) (hw : w < wk) (hy : y < 20) (hRD : ∀ j, j < 800 → RD j = -1 ∨ ∃ v, v < 100 ∧ RD j = nI v) : fx_CI l D cI cZ yX9_fouled wsX9_fouled ({ frames := 2, cells := 0, slots := 0, locals := 43 }) [.ref h, .int (nI w), .int (nI y)] [(h, .inr (9, [.int (nI now), .int (nI wk), .ref zcoins, .ref zdebt, .ref zfines, .ref zreading, .int (nI rk), .ref zruleYear, .ref zruleWhat, .ref zruleShare, .int (nI k), .ref zstate, .ref zholder, .ref zyearOf, .ref zusedIn, .ref zprojectOf, .ref zwent, .int ii, .int (nI bk), .ref zbidWorks, .ref zbidMany, .ref zbidPrice, .int ac, .int (nI pj), .ref zisFalse, .ref zcutMany, .ref ztonnes, .ref zcosts, .ref zgiven, .ref zcutOff, .ref zgot, .ref zcutsOf, .int sm, .int mg])), (zreading, .inl (cI, 800, .inl RD))] (fun (u : Unit) => [(h, .inr (9, [.int (nI now), .int (nI wk), .ref zcoins, .ref zdebt, .ref zfines, .ref zreading, .int (nI rk), .ref zruleYear, .ref zruleWhat, .ref zruleShare, .int (nI k), .ref zstate, .ref zholder, .ref zyearOf, .ref zusedIn, .ref zprojectOf, .ref zwent, .int ii, .int (nI bk), .ref zbidWorks, .ref zbidMany, .ref zbidPrice, .int ac, .int (nI pj), .ref zisFalse, .ref zcutMany, .ref ztonnes, .ref zcosts, .ref zgiven, .ref zcutOff, .ref zgot, .ref zcutsOf, .int sm, .int mg])), (zreading, .inl (cI, 800, .inl RD))]) (fun (r : Int32) (u : Unit) => r = fouV RD w y) := by
  refine fx_CI.of (ws' := (wsX9_fouled).tail) cX9_fouled 8 (by decide) rfl (Nat.le_of_ble_eq_true rfl) ?_
  intro zp ze zs zm za zb zt zc zA ls zQ hQ hC hr hlk hA hH hl
  have zx := hC.1.1
  have zy := hC.1.2.1
  have hl : lv_has ls 8 [(0, .ref h), (1, .int (nI w)), (2, .int (nI y))] := hl
  refine lv_aload_n zx zy dX9_fouled_0 rfl (lv_at hl 0 rfl) ?_
  refine lv_iload_n zx zy dX9_fouled_1 rfl (lv_at hl 1 rfl) ?_
  refine fx_cVi (n := 1) (As := [.int (nI w)]) (b := h) (rest := []) (fun (u : Unit) => [(h, .inr (9, [.int (nI now), .int (nI wk), .ref zcoins, .ref zdebt, .ref zfines, .ref zreading, .int (nI rk), .ref zruleYear, .ref zruleWhat, .ref zruleShare, .int (nI k), .ref zstate, .ref zholder, .ref zyearOf, .ref zusedIn, .ref zprojectOf, .ref zwent, .int ii, .int (nI bk), .ref zbidWorks, .ref zbidMany, .ref zbidPrice, .int ac, .int (nI pj), .ref zisFalse, .ref zcutMany, .ref ztonnes, .ref zcosts, .ref zgiven, .ref zcutOff, .ref zgot, .ref zcutsOf, .int sm, .int mg])), (zreading, .inl (cI, 800, .inl RD))]) hC hA hH (k_X9_isWorks l D cI cZ h zcoins zdebt zfines zreading zruleYear zruleWhat zruleShare zstate zholder zyearOf zusedIn zprojectOf zwent zbidWorks zbidMany zbidPrice zisFalse zcutMany ztonnes zcosts zgiven zcutOff zgot zcutsOf now wk rk k ii bk ac pj sm mg (nI w) (by first | assumption | omega)) [0] [1] [1, 0] [(zreading, .inl (cI, 800, .inl RD))] rfl rfl (by decide) (by decide) (fun _ => rfl) rfl gX9_fouled_X9_isWorks (by decide +kernel) ⟨Nat.le_of_ble_eq_true rfl, Nat.le_of_ble_eq_true rfl⟩ 0 rfl rfl rfl rfl rfl hl.1 (Nat.le_of_ble_eq_true rfl) ⟨Nat.le_of_ble_eq_true rfl, Nat.le_of_ble_eq_true rfl⟩ dX9_fouled_2 (fun r1 u H locs hw2 hH => ?_)
  rcases hw2 with ⟨⟨j2, hj2, ej2⟩, rfl⟩ | ⟨hg2, rfl⟩
  · skip
    have hH := (hH : fx_H zA zs.heap H locs D [(h, .inr (9, [.int (nI now), .int (nI wk), .ref zcoins, .ref zdebt, .ref zfines, .ref zreading, .int (nI rk), .ref zruleYear, .ref zruleWhat, .ref zruleShare, .int (nI k), .ref zstate, .ref zholder, .ref zyearOf, .ref zusedIn, .ref zprojectOf, .ref zwent, .int ii, .int (nI bk), .ref zbidWorks, .ref zbidMany, .ref zbidPrice, .int ac, .int (nI pj), .ref zisFalse, .ref zcutMany, .ref ztonnes, .ref zcosts, .ref zgiven, .ref zcutOff, .ref zgot, .ref zcutsOf, .int sm, .int mg])), (zreading, .inl (cI, 800, .inl RD))])
    refine lv_if_eq (tgt := 18) zx zy dX9_fouled_5 (by decide) (fun c5 => ?_) (fun c5 => ?_)
    · exact absurd c5 (by decide)
    · skip
      refine lv_iload_n zx zy dX9_fouled_8 rfl (lv_at hl 2 rfl) ?_
      refine lv_iconst (v := 0) zx zy dX9_fouled_9 (by decide) ?_
      refine lv_bipush (v := 19) zx zy dX9_fouled_10 (by decide) ?_
      refine fx_cSi (n := 3) (As := [.int (nI y), .int 0, .int 19]) (rest := []) hC hA hH (k_X9_in l D cI cZ (nI y) 0 19) ⟨rfl, rfl⟩ rfl gX9_fouled_X9_in (by decide +kernel) ⟨Nat.le_of_ble_eq_true rfl, Nat.le_of_ble_eq_true rfl⟩ rfl rfl hl.1 (Nat.le_of_ble_eq_true rfl) ⟨(Nat.le_of_ble_eq_true rfl), (Nat.le_of_ble_eq_true rfl)⟩ dX9_fouled_12 (fun r2 H locs hw12 hH => ?_)
      rcases hw12 with ⟨hg12, rfl⟩ | ⟨hg12, rfl⟩
      · skip
        have hH := (hH : fx_H zA zs.heap H locs D [(h, .inr (9, [.int (nI now), .int (nI wk), .ref zcoins, .ref zdebt, .ref zfines, .ref zreading, .int (nI rk), .ref zruleYear, .ref zruleWhat, .ref zruleShare, .int (nI k), .ref zstate, .ref zholder, .ref zyearOf, .ref zusedIn, .ref zprojectOf, .ref zwent, .int ii, .int (nI bk), .ref zbidWorks, .ref zbidMany, .ref zbidPrice, .int ac, .int (nI pj), .ref zisFalse, .ref zcutMany, .ref ztonnes, .ref zcosts, .ref zgiven, .ref zcutOff, .ref zgot, .ref zcutsOf, .int sm, .int mg])), (zreading, .inl (cI, 800, .inl RD))])
        refine lv_if_ne (tgt := 20) zx zy dX9_fouled_15 (by decide) (fun c15 => ?_) (fun c15 => ?_)
        · skip
          refine lv_aload_n zx zy dX9_fouled_20 rfl (lv_at hl 0 rfl) ?_
          refine lv_iload_n zx zy dX9_fouled_21 rfl (lv_at hl 1 rfl) ?_
          refine lv_iload_n zx zy dX9_fouled_22 rfl (lv_at hl 2 rfl) ?_
          refine fx_cVi (n := 2) (As := [.int (nI w), .int (nI y)]) (b := h) (rest := []) (fun (u : Unit) => [(h, .inr (9, [.int (nI now), .int (nI wk), .ref zcoins, .ref zdebt, .ref zfines, .ref zreading, .int (nI rk), .ref zruleYear, .ref zruleWhat, .ref zruleShare, .int (nI k), .ref zstate, .ref zholder, .ref zyearOf, .ref zusedIn, .ref zprojectOf, .ref zwent, .int ii, .int (nI bk), .ref zbidWorks, .ref zbidMany, .ref zbidPrice, .int ac, .int (nI pj), .ref zisFalse, .ref zcutMany, .ref ztonnes, .ref zcosts, .ref zgiven, .ref zcutOff, .ref zgot, .ref zcutsOf, .int sm, .int mg])), (zreading, .inl (cI, 800, .inl RD))]) hC hA hH (k_X9_greatest l D cI cZ h zcoins zdebt zfines zreading zruleYear zruleWhat zruleShare zstate zholder zyearOf zusedIn zprojectOf zwent zbidWorks zbidMany zbidPrice zisFalse zcutMany ztonnes zcosts zgiven zcutOff zgot zcutsOf now wk rk k ii bk ac pj sm mg RD w y (by first | assumption | omega) (by first | assumption | omega)) [0, 1] [] [0, 1] [] rfl rfl (by decide) (by decide) (fun _ => rfl) rfl gX9_fouled_X9_greatest (by decide +kernel) ⟨Nat.le_of_ble_eq_true rfl, Nat.le_of_ble_eq_true rfl⟩ 0 rfl rfl rfl rfl rfl hl.1 (Nat.le_of_ble_eq_true rfl) ⟨Nat.le_of_ble_eq_true rfl, Nat.le_of_ble_eq_true rfl⟩ dX9_fouled_23 (fun r3 u H locs hw23 hH => ?_)
          obtain rfl : r3 = gapT RD w y := hw23
          have hH := (hH : fx_H zA zs.heap H locs D [(h, .inr (9, [.int (nI now), .int (nI wk), .ref zcoins, .ref zdebt, .ref zfines, .ref zreading, .int (nI rk), .ref zruleYear, .ref zruleWhat, .ref zruleShare, .int (nI k), .ref zstate, .ref zholder, .ref zyearOf, .ref zusedIn, .ref zprojectOf, .ref zwent, .int ii, .int (nI bk), .ref zbidWorks, .ref zbidMany, .ref zbidPrice, .int ac, .int (nI pj), .ref zisFalse, .ref zcutMany, .ref ztonnes, .ref zcosts, .ref zgiven, .ref zcutOff, .ref zgot, .ref zcutsOf, .int sm, .int mg])), (zreading, .inl (cI, 800, .inl RD))])
          refine lv_istore_n (lv' := [(3, .int (gapT RD w y)), (0, .ref h), (1, .int (nI w)), (2, .int (nI y))]) zx zy dX9_fouled_26 rfl hl (by decide) rfl (fun ls hl => ?_)
          refine lv_iload_n zx zy dX9_fouled_27 rfl (lv_at hl 0 rfl) ?_
          refine lv_iconst (v := (-1)) zx zy dX9_fouled_28 (by decide) ?_
          refine lv_icmp_ne (tgt := 37) zx zy dX9_fouled_29 (by decide) (fun c29 => ?_) (fun c29 => ?_)
          · skip
            refine lv_iload_n zx zy dX9_fouled_37 rfl (lv_at hl 0 rfl) ?_
            refine lv_bipush (v := 110) zx zy dX9_fouled_38 (by decide) ?_
            refine lv_imul zx zy dX9_fouled_40 ?_
            refine lv_bipush (v := 99) zx zy dX9_fouled_41 (by decide) ?_
            refine lv_iadd zx zy dX9_fouled_43 ?_
            refine lv_bipush (v := 100) zx zy dX9_fouled_44 (by decide) ?_
            refine lv_idiv zx zy dX9_fouled_46 (by decide) ?_
            refine lv_istore (lv' := [(4, .int ((((gapT RD w y) * 110) + 99) / 100)), (3, .int (gapT RD w y)), (0, .ref h), (1, .int (nI w)), (2, .int (nI y))]) zx zy dX9_fouled_47 hl (by decide) rfl (fun ls hl => ?_)
            refine lv_iload zx zy dX9_fouled_49 (lv_at hl 0 rfl) ?_
            refine lv_if_ne (tgt := 57) zx zy dX9_fouled_51 (by decide) (fun c51 => ?_) (fun c51 => ?_)
            · skip
              refine lv_iconst (v := 0) zx zy dX9_fouled_57 (by decide) ?_
              refine lv_istore (lv' := [(5, .int 0), (4, .int ((((gapT RD w y) * 110) + 99) / 100)), (3, .int (gapT RD w y)), (0, .ref h), (1, .int (nI w)), (2, .int (nI y))]) zx zy dX9_fouled_58 hl (by decide) rfl (fun ls hl => ?_)
              refine lv_iconst (v := 0) zx zy dX9_fouled_60 (by decide) ?_
              refine lv_topi (fun v4 ev4 => ?_)
              obtain rfl : v4 = nI 0 := ev4.trans (rfl)
              refine lv_istore (lv' := [(6, .int (nI 0)), (5, .int 0), (4, .int ((((gapT RD w y) * 110) + 99) / 100)), (3, .int (gapT RD w y)), (0, .ref h), (1, .int (nI w)), (2, .int (nI y))]) zx zy dX9_fouled_61 hl (by decide) rfl (fun ls hl => ?_)
              have L63 : ∀ (fu : Nat) (q : Nat) (s5 : Int32) (g : Int32) (hq : q ≤ 4) (hgv : g = gapV RD w y) (hs : s5 = fouS RD (gapV RD w y) ((w * 20 + y) * 4) q) (H : Heap) (locs : List Loc) (ls : Array Slot), 4 - q < fu → fx_H zA zs.heap H locs D [(h, .inr (9, [.int (nI now), .int (nI wk), .ref zcoins, .ref zdebt, .ref zfines, .ref zreading, .int (nI rk), .ref zruleYear, .ref zruleWhat, .ref zruleShare, .int (nI k), .ref zstate, .ref zholder, .ref zyearOf, .ref zusedIn, .ref zprojectOf, .ref zwent, .int ii, .int (nI bk), .ref zbidWorks, .ref zbidMany, .ref zbidPrice, .int ac, .int (nI pj), .ref zisFalse, .ref zcutMany, .ref ztonnes, .ref zcosts, .ref zgiven, .ref zcutOff, .ref zgot, .ref zcutsOf, .int sm, .int mg])), (zreading, .inl (cI, 800, .inl RD))] → lv_has ls 8 [(0, .ref h), (1, .int (nI w)), (2, .int (nI y)), (4, .int g), (5, .int s5), (6, .int (nI q))] → W zp l ze ({ frames := 2, cells := 0, slots := 0, locals := 43 }) zs zm za zb zt zc H locs (0) (0) zQ (F0 zm 63 ls []) := by
                intro fu
                induction fu with
                | zero => intro q s5 g hq hgv hs H locs ls hfu; exact absurd hfu (Nat.not_lt_zero _)
                | succ fu ih63 =>
                  intro q s5 g hq hgv hs H locs ls hfu63 hH hl
                  refine lv_iload zx zy dX9_fouled_63 (lv_at hl 5 rfl) ?_
                  refine lv_iconst (v := 4) zx zy dX9_fouled_65 (by decide) ?_
                  refine lv_icmp_ge (tgt := 111) zx zy dX9_fouled_66 (by decide) (fun c66 => ?_) (fun c66 => ?_)
                  · skip
                    have hq4 : q = 4 := Nat.le_antisymm hq (fx_le_of (a := 4) c66 (by omega) (by omega))
                    refine lv_iload zx zy dX9_fouled_111 (lv_at hl 4 rfl) ?_
                    exact fx_iret (v := s5) hQ hC hr hlk hH dX9_fouled_113 rfl (Nat.le_of_ble_eq_true rfl) (Nat.le_of_ble_eq_true rfl) (()) rfl (by rw [hs, hq4]; rfl)
                  · skip
                    have hlt : q < 4 := fx_lt_of (b := 4) c66 (by omega)
                    refine lv_aload_n zx zy dX9_fouled_69 rfl (lv_at hl 0 rfl) ?_
                    refine fx_get (C := RX9) (T := TX9) (N := 34) hC (fun _ h => List.mem_cons_of_mem _ (List.mem_append_right _ h)) hH 0 rfl rfl 5 (by decide) (by decide +kernel) rfl dX9_fouled_70 ?_
                    refine lv_iconst (v := 4) zx zy dX9_fouled_73 (by decide) ?_
                    refine lv_bipush (v := 20) zx zy dX9_fouled_74 (by decide) ?_
                    refine lv_iload_n zx zy dX9_fouled_76 rfl (lv_at hl 1 rfl) ?_
                    refine lv_imul zx zy dX9_fouled_77 ?_
                    refine lv_iload_n zx zy dX9_fouled_78 rfl (lv_at hl 2 rfl) ?_
                    refine lv_iadd zx zy dX9_fouled_79 ?_
                    refine lv_imul zx zy dX9_fouled_80 ?_
                    refine lv_iload zx zy dX9_fouled_81 (lv_at hl 5 rfl) ?_
                    refine lv_iadd zx zy dX9_fouled_83 ?_
                    refine lv_topi (fun v5 ev5 => ?_)
                    obtain rfl : v5 = nI ((w * 20 + y) * 4 + q) := ev5.trans (pl4 w y q)
                    refine fx_ild hC hH 1 rfl (vp_in_nI (by omega) (by omega)) dX9_fouled_84 ?_
                    refine lv_topi (fun v6 ev6 => ?_)
                    obtain rfl : v6 = RD ((w * 20 + y) * 4 + q) := ev6.trans (congrArg RD (nI_clamp (by omega)))
                    refine lv_istore (lv' := [(7, .int (RD ((w * 20 + y) * 4 + q))), (0, .ref h), (1, .int (nI w)), (2, .int (nI y)), (4, .int g), (5, .int s5), (6, .int (nI q))]) zx zy dX9_fouled_85 hl (by decide) rfl (fun ls hl => ?_)
                    refine lv_iload zx zy dX9_fouled_87 (lv_at hl 5 rfl) ?_
                    refine lv_iload zx zy dX9_fouled_89 (lv_at hl 0 rfl) ?_
                    refine lv_iconst (v := (-1)) zx zy dX9_fouled_91 (by decide) ?_
                    refine lv_icmp_ne (tgt := 100) zx zy dX9_fouled_92 (by decide) (fun c92 => ?_) (fun c92 => ?_)
                    · skip
                      refine lv_iload zx zy dX9_fouled_100 (lv_at hl 0 rfl) ?_
                      refine lv_iadd zx zy dX9_fouled_102 ?_
                      refine lv_istore (lv' := [(5, .int (s5 + (RD ((w * 20 + y) * 4 + q)))), (7, .int (RD ((w * 20 + y) * 4 + q))), (0, .ref h), (1, .int (nI w)), (2, .int (nI y)), (4, .int g), (6, .int (nI q))]) zx zy dX9_fouled_103 hl (by decide) rfl (fun ls hl => ?_)
                      refine lv_iinc (v := nI (q + 1)) (lv' := [(6, .int (nI (q + 1))), (5, .int (s5 + (RD ((w * 20 + y) * 4 + q)))), (7, .int (RD ((w * 20 + y) * 4 + q))), (0, .ref h), (1, .int (nI w)), (2, .int (nI y)), (4, .int g)]) zx zy dX9_fouled_105 hl (k := 6) rfl (nI_1 _) (by decide) rfl (fun ls hl => ?_)
                      refine lv_goto (tgt := 63) zx zy dX9_fouled_108 (by decide) ?_
                      exact ih63 (q + 1) (s5 + (RD ((w * 20 + y) * 4 + q))) g (by first | assumption | omega) (by first | assumption | omega) (by subst hs; subst hgv; first | (simp only [fouS, if_pos c92]; done) | (simp only [fouS, if_neg c92]; done)) _ _ _ (by omega) hH (lv_sub hl [3, 4, 5, 6, 1, 0] rfl)
                    · skip
                      refine lv_iload zx zy dX9_fouled_95 (lv_at hl 4 rfl) ?_
                      refine lv_goto (tgt := 102) zx zy dX9_fouled_97 (by decide) ?_
                      refine lv_iadd zx zy dX9_fouled_102 ?_
                      refine lv_istore (lv' := [(5, .int (s5 + g)), (7, .int (RD ((w * 20 + y) * 4 + q))), (0, .ref h), (1, .int (nI w)), (2, .int (nI y)), (4, .int g), (6, .int (nI q))]) zx zy dX9_fouled_103 hl (by decide) rfl (fun ls hl => ?_)
                      refine lv_iinc (v := nI (q + 1)) (lv' := [(6, .int (nI (q + 1))), (5, .int (s5 + g)), (7, .int (RD ((w * 20 + y) * 4 + q))), (0, .ref h), (1, .int (nI w)), (2, .int (nI y)), (4, .int g)]) zx zy dX9_fouled_105 hl (k := 6) rfl (nI_1 _) (by decide) rfl (fun ls hl => ?_)
                      refine lv_goto (tgt := 63) zx zy dX9_fouled_108 (by decide) ?_
                      exact ih63 (q + 1) (s5 + g) g (by first | assumption | omega) (by first | assumption | omega) (by subst hs; subst hgv; first | (simp only [fouS, if_pos c92]; done) | (simp only [fouS, if_neg c92]; done)) _ _ _ (by omega) hH (lv_sub hl [3, 4, 5, 6, 1, 0] rfl)
              exact L63 _ 0 0 ((((gapT RD w y) * 110) + 99) / 100) (by first | assumption | omega) (by first | exact gp_a c29 | exact gp_b (gapT_ix (by omega) (by omega) hRD) c29 c51 | exact gp_c c29 c51) (rfl) _ _ _ (Nat.lt_succ_self _) hH (lv_sub hl [4, 5, 6, 2, 1, 0] rfl)
            · skip
              refine lv_iconst (v := 1) zx zy dX9_fouled_54 (by decide) ?_
              refine lv_istore (lv' := [(4, .int 1), (3, .int (gapT RD w y)), (0, .ref h), (1, .int (nI w)), (2, .int (nI y))]) zx zy dX9_fouled_55 hl (by decide) rfl (fun ls hl => ?_)
              refine lv_iconst (v := 0) zx zy dX9_fouled_57 (by decide) ?_
              refine lv_istore (lv' := [(5, .int 0), (4, .int 1), (3, .int (gapT RD w y)), (0, .ref h), (1, .int (nI w)), (2, .int (nI y))]) zx zy dX9_fouled_58 hl (by decide) rfl (fun ls hl => ?_)
              refine lv_iconst (v := 0) zx zy dX9_fouled_60 (by decide) ?_
              refine lv_topi (fun v7 ev7 => ?_)
              obtain rfl : v7 = nI 0 := ev7.trans (rfl)
              refine lv_istore (lv' := [(6, .int (nI 0)), (5, .int 0), (4, .int 1), (3, .int (gapT RD w y)), (0, .ref h), (1, .int (nI w)), (2, .int (nI y))]) zx zy dX9_fouled_61 hl (by decide) rfl (fun ls hl => ?_)
              have L63 : ∀ (fu : Nat) (q : Nat) (s5 : Int32) (g : Int32) (hq : q ≤ 4) (hgv : g = gapV RD w y) (hs : s5 = fouS RD (gapV RD w y) ((w * 20 + y) * 4) q) (H : Heap) (locs : List Loc) (ls : Array Slot), 4 - q < fu → fx_H zA zs.heap H locs D [(h, .inr (9, [.int (nI now), .int (nI wk), .ref zcoins, .ref zdebt, .ref zfines, .ref zreading, .int (nI rk), .ref zruleYear, .ref zruleWhat, .ref zruleShare, .int (nI k), .ref zstate, .ref zholder, .ref zyearOf, .ref zusedIn, .ref zprojectOf, .ref zwent, .int ii, .int (nI bk), .ref zbidWorks, .ref zbidMany, .ref zbidPrice, .int ac, .int (nI pj), .ref zisFalse, .ref zcutMany, .ref ztonnes, .ref zcosts, .ref zgiven, .ref zcutOff, .ref zgot, .ref zcutsOf, .int sm, .int mg])), (zreading, .inl (cI, 800, .inl RD))] → lv_has ls 8 [(0, .ref h), (1, .int (nI w)), (2, .int (nI y)), (4, .int g), (5, .int s5), (6, .int (nI q))] → W zp l ze ({ frames := 2, cells := 0, slots := 0, locals := 43 }) zs zm za zb zt zc H locs (0) (0) zQ (F0 zm 63 ls []) := by
                intro fu
                induction fu with
                | zero => intro q s5 g hq hgv hs H locs ls hfu; exact absurd hfu (Nat.not_lt_zero _)
                | succ fu ih63 =>
                  intro q s5 g hq hgv hs H locs ls hfu63 hH hl
                  refine lv_iload zx zy dX9_fouled_63 (lv_at hl 5 rfl) ?_
                  refine lv_iconst (v := 4) zx zy dX9_fouled_65 (by decide) ?_
                  refine lv_icmp_ge (tgt := 111) zx zy dX9_fouled_66 (by decide) (fun c66 => ?_) (fun c66 => ?_)
                  · skip
                    have hq4 : q = 4 := Nat.le_antisymm hq (fx_le_of (a := 4) c66 (by omega) (by omega))
                    refine lv_iload zx zy dX9_fouled_111 (lv_at hl 4 rfl) ?_
                    exact fx_iret (v := s5) hQ hC hr hlk hH dX9_fouled_113 rfl (Nat.le_of_ble_eq_true rfl) (Nat.le_of_ble_eq_true rfl) (()) rfl (by rw [hs, hq4]; rfl)
                  · skip
                    have hlt : q < 4 := fx_lt_of (b := 4) c66 (by omega)
                    refine lv_aload_n zx zy dX9_fouled_69 rfl (lv_at hl 0 rfl) ?_
                    refine fx_get (C := RX9) (T := TX9) (N := 34) hC (fun _ h => List.mem_cons_of_mem _ (List.mem_append_right _ h)) hH 0 rfl rfl 5 (by decide) (by decide +kernel) rfl dX9_fouled_70 ?_
                    refine lv_iconst (v := 4) zx zy dX9_fouled_73 (by decide) ?_
                    refine lv_bipush (v := 20) zx zy dX9_fouled_74 (by decide) ?_
                    refine lv_iload_n zx zy dX9_fouled_76 rfl (lv_at hl 1 rfl) ?_
                    refine lv_imul zx zy dX9_fouled_77 ?_
                    refine lv_iload_n zx zy dX9_fouled_78 rfl (lv_at hl 2 rfl) ?_
                    refine lv_iadd zx zy dX9_fouled_79 ?_
                    refine lv_imul zx zy dX9_fouled_80 ?_
                    refine lv_iload zx zy dX9_fouled_81 (lv_at hl 5 rfl) ?_
                    refine lv_iadd zx zy dX9_fouled_83 ?_
                    refine lv_topi (fun v8 ev8 => ?_)
                    obtain rfl : v8 = nI ((w * 20 + y) * 4 + q) := ev8.trans (pl4 w y q)
                    refine fx_ild hC hH 1 rfl (vp_in_nI (by omega) (by omega)) dX9_fouled_84 ?_
                    refine lv_topi (fun v9 ev9 => ?_)
                    obtain rfl : v9 = RD ((w * 20 + y) * 4 + q) := ev9.trans (congrArg RD (nI_clamp (by omega)))
                    refine lv_istore (lv' := [(7, .int (RD ((w * 20 + y) * 4 + q))), (0, .ref h), (1, .int (nI w)), (2, .int (nI y)), (4, .int g), (5, .int s5), (6, .int (nI q))]) zx zy dX9_fouled_85 hl (by decide) rfl (fun ls hl => ?_)
                    refine lv_iload zx zy dX9_fouled_87 (lv_at hl 5 rfl) ?_
                    refine lv_iload zx zy dX9_fouled_89 (lv_at hl 0 rfl) ?_
                    refine lv_iconst (v := (-1)) zx zy dX9_fouled_91 (by decide) ?_
                    refine lv_icmp_ne (tgt := 100) zx zy dX9_fouled_92 (by decide) (fun c92 => ?_) (fun c92 => ?_)
                    · skip
                      refine lv_iload zx zy dX9_fouled_100 (lv_at hl 0 rfl) ?_
                      refine lv_iadd zx zy dX9_fouled_102 ?_
                      refine lv_istore (lv' := [(5, .int (s5 + (RD ((w * 20 + y) * 4 + q)))), (7, .int (RD ((w * 20 + y) * 4 + q))), (0, .ref h), (1, .int (nI w)), (2, .int (nI y)), (4, .int g), (6, .int (nI q))]) zx zy dX9_fouled_103 hl (by decide) rfl (fun ls hl => ?_)
                      refine lv_iinc (v := nI (q + 1)) (lv' := [(6, .int (nI (q + 1))), (5, .int (s5 + (RD ((w * 20 + y) * 4 + q)))), (7, .int (RD ((w * 20 + y) * 4 + q))), (0, .ref h), (1, .int (nI w)), (2, .int (nI y)), (4, .int g)]) zx zy dX9_fouled_105 hl (k := 6) rfl (nI_1 _) (by decide) rfl (fun ls hl => ?_)
                      refine lv_goto (tgt := 63) zx zy dX9_fouled_108 (by decide) ?_
                      exact ih63 (q + 1) (s5 + (RD ((w * 20 + y) * 4 + q))) g (by first | assumption | omega) (by first | assumption | omega) (by subst hs; subst hgv; first | (simp only [fouS, if_pos c92]; done) | (simp only [fouS, if_neg c92]; done)) _ _ _ (by omega) hH (lv_sub hl [3, 4, 5, 6, 1, 0] rfl)
                    · skip
                      refine lv_iload zx zy dX9_fouled_95 (lv_at hl 4 rfl) ?_
                      refine lv_goto (tgt := 102) zx zy dX9_fouled_97 (by decide) ?_
                      refine lv_iadd zx zy dX9_fouled_102 ?_
                      refine lv_istore (lv' := [(5, .int (s5 + g)), (7, .int (RD ((w * 20 + y) * 4 + q))), (0, .ref h), (1, .int (nI w)), (2, .int (nI y)), (4, .int g), (6, .int (nI q))]) zx zy dX9_fouled_103 hl (by decide) rfl (fun ls hl => ?_)
                      refine lv_iinc (v := nI (q + 1)) (lv' := [(6, .int (nI (q + 1))), (5, .int (s5 + g)), (7, .int (RD ((w * 20 + y) * 4 + q))), (0, .ref h), (1, .int (nI w)), (2, .int (nI y)), (4, .int g)]) zx zy dX9_fouled_105 hl (k := 6) rfl (nI_1 _) (by decide) rfl (fun ls hl => ?_)
                      refine lv_goto (tgt := 63) zx zy dX9_fouled_108 (by decide) ?_
                      exact ih63 (q + 1) (s5 + g) g (by first | assumption | omega) (by first | assumption | omega) (by subst hs; subst hgv; first | (simp only [fouS, if_pos c92]; done) | (simp only [fouS, if_neg c92]; done)) _ _ _ (by omega) hH (lv_sub hl [3, 4, 5, 6, 1, 0] rfl)
              exact L63 _ 0 0 1 (by first | assumption | omega) (by first | exact gp_a c29 | exact gp_b (gapT_ix (by omega) (by omega) hRD) c29 c51 | exact gp_c c29 c51) (rfl) _ _ _ (Nat.lt_succ_self _) hH (lv_sub hl [4, 5, 6, 2, 1, 0] rfl)
          · skip
            refine lv_bipush (v := 10) zx zy dX9_fouled_32 (by decide) ?_
            refine lv_goto (tgt := 47) zx zy dX9_fouled_34 (by decide) ?_
            refine lv_istore (lv' := [(4, .int 10), (3, .int (gapT RD w y)), (0, .ref h), (1, .int (nI w)), (2, .int (nI y))]) zx zy dX9_fouled_47 hl (by decide) rfl (fun ls hl => ?_)
            refine lv_iload zx zy dX9_fouled_49 (lv_at hl 0 rfl) ?_
            refine lv_if_ne (tgt := 57) zx zy dX9_fouled_51 (by decide) (fun c51 => ?_) (fun c51 => ?_)
            · skip
              refine lv_iconst (v := 0) zx zy dX9_fouled_57 (by decide) ?_
              refine lv_istore (lv' := [(5, .int 0), (4, .int 10), (3, .int (gapT RD w y)), (0, .ref h), (1, .int (nI w)), (2, .int (nI y))]) zx zy dX9_fouled_58 hl (by decide) rfl (fun ls hl => ?_)
              refine lv_iconst (v := 0) zx zy dX9_fouled_60 (by decide) ?_
              refine lv_topi (fun v10 ev10 => ?_)
              obtain rfl : v10 = nI 0 := ev10.trans (rfl)
              refine lv_istore (lv' := [(6, .int (nI 0)), (5, .int 0), (4, .int 10), (3, .int (gapT RD w y)), (0, .ref h), (1, .int (nI w)), (2, .int (nI y))]) zx zy dX9_fouled_61 hl (by decide) rfl (fun ls hl => ?_)
              have L63 : ∀ (fu : Nat) (q : Nat) (s5 : Int32) (g : Int32) (hq : q ≤ 4) (hgv : g = gapV RD w y) (hs : s5 = fouS RD (gapV RD w y) ((w * 20 + y) * 4) q) (H : Heap) (locs : List Loc) (ls : Array Slot), 4 - q < fu → fx_H zA zs.heap H locs D [(h, .inr (9, [.int (nI now), .int (nI wk), .ref zcoins, .ref zdebt, .ref zfines, .ref zreading, .int (nI rk), .ref zruleYear, .ref zruleWhat, .ref zruleShare, .int (nI k), .ref zstate, .ref zholder, .ref zyearOf, .ref zusedIn, .ref zprojectOf, .ref zwent, .int ii, .int (nI bk), .ref zbidWorks, .ref zbidMany, .ref zbidPrice, .int ac, .int (nI pj), .ref zisFalse, .ref zcutMany, .ref ztonnes, .ref zcosts, .ref zgiven, .ref zcutOff, .ref zgot, .ref zcutsOf, .int sm, .int mg])), (zreading, .inl (cI, 800, .inl RD))] → lv_has ls 8 [(0, .ref h), (1, .int (nI w)), (2, .int (nI y)), (4, .int g), (5, .int s5), (6, .int (nI q))] → W zp l ze ({ frames := 2, cells := 0, slots := 0, locals := 43 }) zs zm za zb zt zc H locs (0) (0) zQ (F0 zm 63 ls []) := by
                intro fu
                induction fu with
                | zero => intro q s5 g hq hgv hs H locs ls hfu; exact absurd hfu (Nat.not_lt_zero _)
                | succ fu ih63 =>
                  intro q s5 g hq hgv hs H locs ls hfu63 hH hl
                  refine lv_iload zx zy dX9_fouled_63 (lv_at hl 5 rfl) ?_
                  refine lv_iconst (v := 4) zx zy dX9_fouled_65 (by decide) ?_
                  refine lv_icmp_ge (tgt := 111) zx zy dX9_fouled_66 (by decide) (fun c66 => ?_) (fun c66 => ?_)
                  · skip
                    have hq4 : q = 4 := Nat.le_antisymm hq (fx_le_of (a := 4) c66 (by omega) (by omega))
                    refine lv_iload zx zy dX9_fouled_111 (lv_at hl 4 rfl) ?_
                    exact fx_iret (v := s5) hQ hC hr hlk hH dX9_fouled_113 rfl (Nat.le_of_ble_eq_true rfl) (Nat.le_of_ble_eq_true rfl) (()) rfl (by rw [hs, hq4]; rfl)
                  · skip
                    have hlt : q < 4 := fx_lt_of (b := 4) c66 (by omega)
                    refine lv_aload_n zx zy dX9_fouled_69 rfl (lv_at hl 0 rfl) ?_
                    refine fx_get (C := RX9) (T := TX9) (N := 34) hC (fun _ h => List.mem_cons_of_mem _ (List.mem_append_right _ h)) hH 0 rfl rfl 5 (by decide) (by decide +kernel) rfl dX9_fouled_70 ?_
                    refine lv_iconst (v := 4) zx zy dX9_fouled_73 (by decide) ?_
                    refine lv_bipush (v := 20) zx zy dX9_fouled_74 (by decide) ?_
                    refine lv_iload_n zx zy dX9_fouled_76 rfl (lv_at hl 1 rfl) ?_
                    refine lv_imul zx zy dX9_fouled_77 ?_
                    refine lv_iload_n zx zy dX9_fouled_78 rfl (lv_at hl 2 rfl) ?_
                    refine lv_iadd zx zy dX9_fouled_79 ?_
                    refine lv_imul zx zy dX9_fouled_80 ?_
                    refine lv_iload zx zy dX9_fouled_81 (lv_at hl 5 rfl) ?_
                    refine lv_iadd zx zy dX9_fouled_83 ?_
                    refine lv_topi (fun v11 ev11 => ?_)
                    obtain rfl : v11 = nI ((w * 20 + y) * 4 + q) := ev11.trans (pl4 w y q)
                    refine fx_ild hC hH 1 rfl (vp_in_nI (by omega) (by omega)) dX9_fouled_84 ?_
                    refine lv_topi (fun v12 ev12 => ?_)
                    obtain rfl : v12 = RD ((w * 20 + y) * 4 + q) := ev12.trans (congrArg RD (nI_clamp (by omega)))
                    refine lv_istore (lv' := [(7, .int (RD ((w * 20 + y) * 4 + q))), (0, .ref h), (1, .int (nI w)), (2, .int (nI y)), (4, .int g), (5, .int s5), (6, .int (nI q))]) zx zy dX9_fouled_85 hl (by decide) rfl (fun ls hl => ?_)
                    refine lv_iload zx zy dX9_fouled_87 (lv_at hl 5 rfl) ?_
                    refine lv_iload zx zy dX9_fouled_89 (lv_at hl 0 rfl) ?_
                    refine lv_iconst (v := (-1)) zx zy dX9_fouled_91 (by decide) ?_
                    refine lv_icmp_ne (tgt := 100) zx zy dX9_fouled_92 (by decide) (fun c92 => ?_) (fun c92 => ?_)
                    · skip
                      refine lv_iload zx zy dX9_fouled_100 (lv_at hl 0 rfl) ?_
                      refine lv_iadd zx zy dX9_fouled_102 ?_
                      refine lv_istore (lv' := [(5, .int (s5 + (RD ((w * 20 + y) * 4 + q)))), (7, .int (RD ((w * 20 + y) * 4 + q))), (0, .ref h), (1, .int (nI w)), (2, .int (nI y)), (4, .int g), (6, .int (nI q))]) zx zy dX9_fouled_103 hl (by decide) rfl (fun ls hl => ?_)
                      refine lv_iinc (v := nI (q + 1)) (lv' := [(6, .int (nI (q + 1))), (5, .int (s5 + (RD ((w * 20 + y) * 4 + q)))), (7, .int (RD ((w * 20 + y) * 4 + q))), (0, .ref h), (1, .int (nI w)), (2, .int (nI y)), (4, .int g)]) zx zy dX9_fouled_105 hl (k := 6) rfl (nI_1 _) (by decide) rfl (fun ls hl => ?_)
                      refine lv_goto (tgt := 63) zx zy dX9_fouled_108 (by decide) ?_
                      exact ih63 (q + 1) (s5 + (RD ((w * 20 + y) * 4 + q))) g (by first | assumption | omega) (by first | assumption | omega) (by subst hs; subst hgv; first | (simp only [fouS, if_pos c92]; done) | (simp only [fouS, if_neg c92]; done)) _ _ _ (by omega) hH (lv_sub hl [3, 4, 5, 6, 1, 0] rfl)
                    · skip
                      refine lv_iload zx zy dX9_fouled_95 (lv_at hl 4 rfl) ?_
                      refine lv_goto (tgt := 102) zx zy dX9_fouled_97 (by decide) ?_
                      refine lv_iadd zx zy dX9_fouled_102 ?_
                      refine lv_istore (lv' := [(5, .int (s5 + g)), (7, .int (RD ((w * 20 + y) * 4 + q))), (0, .ref h), (1, .int (nI w)), (2, .int (nI y)), (4, .int g), (6, .int (nI q))]) zx zy dX9_fouled_103 hl (by decide) rfl (fun ls hl => ?_)
                      refine lv_iinc (v := nI (q + 1)) (lv' := [(6, .int (nI (q + 1))), (5, .int (s5 + g)), (7, .int (RD ((w * 20 + y) * 4 + q))), (0, .ref h), (1, .int (nI w)), (2, .int (nI y)), (4, .int g)]) zx zy dX9_fouled_105 hl (k := 6) rfl (nI_1 _) (by decide) rfl (fun ls hl => ?_)
                      refine lv_goto (tgt := 63) zx zy dX9_fouled_108 (by decide) ?_
                      exact ih63 (q + 1) (s5 + g) g (by first | assumption | omega) (by first | assumption | omega) (by subst hs; subst hgv; first | (simp only [fouS, if_pos c92]; done) | (simp only [fouS, if_neg c92]; done)) _ _ _ (by omega) hH (lv_sub hl [3, 4, 5, 6, 1, 0] rfl)
              exact L63 _ 0 0 10 (by first | assumption | omega) (by first | exact gp_a c29 | exact gp_b (gapT_ix (by omega) (by omega) hRD) c29 c51 | exact gp_c c29 c51) (rfl) _ _ _ (Nat.lt_succ_self _) hH (lv_sub hl [4, 5, 6, 2, 1, 0] rfl)
            · exact absurd c51 (by decide)
        · exact absurd c15 (by decide)
      · skip
        have hH := (hH : fx_H zA zs.heap H locs D [(h, .inr (9, [.int (nI now), .int (nI wk), .ref zcoins, .ref zdebt, .ref zfines, .ref zreading, .int (nI rk), .ref zruleYear, .ref zruleWhat, .ref zruleShare, .int (nI k), .ref zstate, .ref zholder, .ref zyearOf, .ref zusedIn, .ref zprojectOf, .ref zwent, .int ii, .int (nI bk), .ref zbidWorks, .ref zbidMany, .ref zbidPrice, .int ac, .int (nI pj), .ref zisFalse, .ref zcutMany, .ref ztonnes, .ref zcosts, .ref zgiven, .ref zcutOff, .ref zgot, .ref zcutsOf, .int sm, .int mg])), (zreading, .inl (cI, 800, .inl RD))])
        exact absurd ⟨y, by omega, rfl⟩ (w_out (N := 19) (by omega) hg12)
  · skip
    have hH := (hH : fx_H zA zs.heap H locs D [(h, .inr (9, [.int (nI now), .int (nI wk), .ref zcoins, .ref zdebt, .ref zfines, .ref zreading, .int (nI rk), .ref zruleYear, .ref zruleWhat, .ref zruleShare, .int (nI k), .ref zstate, .ref zholder, .ref zyearOf, .ref zusedIn, .ref zprojectOf, .ref zwent, .int ii, .int (nI bk), .ref zbidWorks, .ref zbidMany, .ref zbidPrice, .int ac, .int (nI pj), .ref zisFalse, .ref zcutMany, .ref ztonnes, .ref zcosts, .ref zgiven, .ref zcutOff, .ref zgot, .ref zcutsOf, .int sm, .int mg])), (zreading, .inl (cI, 800, .inl RD))])
    exact absurd ⟨w, hw, rfl⟩ hg2
