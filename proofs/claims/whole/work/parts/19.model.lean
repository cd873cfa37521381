theorem i_nlt {a b : Int32} (h : ¬ a < b) : b ≤ a := Int32.not_lt.mp h
theorem i_nle {a b : Int32} (h : ¬ a ≤ b) : b < a := Int32.not_le.mp h
theorem rem_le {s : Int32} (h : ¬ s < 0) : ¬ 999 < s / 100 - s / 100 / 1000 * 1000 := by
  obtain ⟨n, hn, rfl⟩ := nI_of h
  have e1 : nI n / 100 = nI (n / 100) := pk_div (d := 100) hn (by omega) (by omega)
  have e2 : nI (n / 100) - nI (n / 100) / 1000 * 1000 = nI (n / 100 % 1000) := pk_rem (d := 1000) (by omega) (by omega) (by omega)
  rw [e1, e2]
  exact nI_nlt (a := 999) (b := n / 100 % 1000) (by omega) (by omega)
def cW (RW : Nat → Int32) : Nat → Int32 := fun j => RW j / 1000
def fW (RW : Nat → Int32) : Nat → Int32 := fun j => RW j - RW j / 1000 * 1000
def pS (RS : Nat → Int32) (a b : Int32) : Nat → Int32 := fun j => RS j / a - RS j / a / b * b
theorem capGo_0 (fall : Int32) : ∀ d, capGo fall d 0 = 0
  | 0 => rfl
  | d + 1 => by
    show capGo fall d (0 - 0 * fall / 100) = 0
    rw [Int32.zero_mul, show (0 : Int32) - 0 / 100 = 0 by decide]
    exact capGo_0 fall d
theorem inF_in {f : Nat → Int32} {y b : Int32} {k : Nat} (hk : k ≤ 30) (hb : b = inF f y k) (h : ¬ b = -1) : vp_in b 30 := by
  rcases inF_ix f y k with e | ⟨j, hj, e⟩
  · exact absurd (hb.trans e) h
  · rw [hb, e]; exact vp_in_nI (by omega) (by omega)
set_option maxHeartbeats 4000000 in
set_option maxRecDepth 100000 in
theorem k_X9_isWorks (l : Launch) (D : va_G) (cI cZ : ClassId) (h : Nat) (zcoins : Nat) (zdebt : Nat) (zfines : Nat) (zreading : Nat) (zruleYear : Nat) (zruleWhat : Nat) (zruleShare : Nat) (zstate : Nat) (zholder : Nat) (zyearOf : Nat) (zusedIn : Nat) (zprojectOf : Nat) (zwent : Nat) (zbidWorks : Nat) (zbidMany : Nat) (zbidPrice : Nat) (zisFalse : Nat) (zcutMany : Nat) (ztonnes : Nat) (zcosts : Nat) (zgiven : Nat) (zcutOff : Nat) (zgot : Nat) (zcutsOf : Nat) (now : Nat) (wk : Nat) (rk : Nat) (k : Nat) (ii : Int32) (bk : Nat) (ac : Int32) (pj : Nat) (sm : Int32) (mg : Int32) (x : Int32) (hwk : wk ≤ 10) : fx_CI l D cI cZ yX9_isWorks wsX9_isWorks ({ frames := 1, cells := 0, slots := 0, locals := 22 }) [.ref h, .int x] [(h, .inr (9, [.int (nI now), .int (nI wk), .ref zcoins, .ref zdebt, .ref zfines, .ref zreading, .int (nI rk), .ref zruleYear, .ref zruleWhat, .ref zruleShare, .int (nI k), .ref zstate, .ref zholder, .ref zyearOf, .ref zusedIn, .ref zprojectOf, .ref zwent, .int ii, .int (nI bk), .ref zbidWorks, .ref zbidMany, .ref zbidPrice, .int ac, .int (nI pj), .ref zisFalse, .ref zcutMany, .ref ztonnes, .ref zcosts, .ref zgiven, .ref zcutOff, .ref zgot, .ref zcutsOf, .int sm, .int mg]))] (fun (u : Unit) => [(h, .inr (9, [.int (nI now), .int (nI wk), .ref zcoins, .ref zdebt, .ref zfines, .ref zreading, .int (nI rk), .ref zruleYear, .ref zruleWhat, .ref zruleShare, .int (nI k), .ref zstate, .ref zholder, .ref zyearOf, .ref zusedIn, .ref zprojectOf, .ref zwent, .int ii, .int (nI bk), .ref zbidWorks, .ref zbidMany, .ref zbidPrice, .int ac, .int (nI pj), .ref zisFalse, .ref zcutMany, .ref ztonnes, .ref zcosts, .ref zgiven, .ref zcutOff, .ref zgot, .ref zcutsOf, .int sm, .int mg]))]) (fun (r : Int32) (u : Unit) => ((∃ j, j < wk ∧ x = nI j) ∧ r = 1) ∨ ((¬ ∃ j, j < wk ∧ x = nI j) ∧ r = 0)) := by
  refine fx_CI.of (ws' := (wsX9_isWorks).tail) cX9_isWorks 2 (by decide) rfl (Nat.le_of_ble_eq_true rfl) ?_
  intro zp ze zs zm za zb zt zc zA ls zQ hQ hC hr hlk hA hH hl
  have zx := hC.1.1
  have zy := hC.1.2.1
  have hl : lv_has ls 2 [(0, .ref h), (1, .int x)] := hl
  refine lv_iload_n zx zy dX9_isWorks_0 rfl (lv_at hl 1 rfl) ?_
  refine lv_iconst (v := 0) zx zy dX9_isWorks_1 (by decide) ?_
  refine lv_aload_n zx zy dX9_isWorks_2 rfl (lv_at hl 0 rfl) ?_
  refine fx_get (C := RX9) (T := TX9) (N := 34) hC (fun _ h => List.mem_cons_of_mem _ (List.mem_append_right _ h)) hH 0 rfl rfl 1 (by decide) (by decide +kernel) rfl dX9_isWorks_3 ?_
  refine lv_iconst (v := 1) zx zy dX9_isWorks_6 (by decide) ?_
  refine lv_isub zx zy dX9_isWorks_7 ?_
  refine fx_cSi (n := 3) (As := [.int x, .int 0, .int ((nI wk) - 1)]) (rest := []) hC hA hH (k_X9_in l D cI cZ x 0 ((nI wk) - 1)) ⟨rfl, rfl⟩ rfl gX9_isWorks_X9_in (by decide +kernel) ⟨Nat.le_of_ble_eq_true rfl, Nat.le_of_ble_eq_true rfl⟩ rfl rfl hl.1 (Nat.le_of_ble_eq_true rfl) ⟨(Nat.le_of_ble_eq_true rfl), (Nat.le_of_ble_eq_true rfl)⟩ dX9_isWorks_8 (fun r1 H locs hw8 hH => ?_)
  rcases hw8 with ⟨hg8, rfl⟩ | ⟨hg8, rfl⟩
  · skip
    have hH := (hH : fx_H zA zs.heap H locs D [(h, .inr (9, [.int (nI now), .int (nI wk), .ref zcoins, .ref zdebt, .ref zfines, .ref zreading, .int (nI rk), .ref zruleYear, .ref zruleWhat, .ref zruleShare, .int (nI k), .ref zstate, .ref zholder, .ref zyearOf, .ref zusedIn, .ref zprojectOf, .ref zwent, .int ii, .int (nI bk), .ref zbidWorks, .ref zbidMany, .ref zbidPrice, .int ac, .int (nI pj), .ref zisFalse, .ref zcutMany, .ref ztonnes, .ref zcosts, .ref zgiven, .ref zcutOff, .ref zgot, .ref zcutsOf, .int sm, .int mg]))])
    exact fx_iret (v := 1) hQ hC hr hlk hH dX9_isWorks_11 rfl (Nat.le_of_ble_eq_true rfl) (Nat.le_of_ble_eq_true rfl) (()) rfl (by first | exact Or.inl ⟨w_inK (by omega) hg8.1 hg8.2, rfl⟩ | exact Or.inr ⟨w_outK (by omega) hg8, rfl⟩)
  · skip
    have hH := (hH : fx_H zA zs.heap H locs D [(h, .inr (9, [.int (nI now), .int (nI wk), .ref zcoins, .ref zdebt, .ref zfines, .ref zreading, .int (nI rk), .ref zruleYear, .ref zruleWhat, .ref zruleShare, .int (nI k), .ref zstate, .ref zholder, .ref zyearOf, .ref zusedIn, .ref zprojectOf, .ref zwent, .int ii, .int (nI bk), .ref zbidWorks, .ref zbidMany, .ref zbidPrice, .int ac, .int (nI pj), .ref zisFalse, .ref zcutMany, .ref ztonnes, .ref zcosts, .ref zgiven, .ref zcutOff, .ref zgot, .ref zcutsOf, .int sm, .int mg]))])
    exact fx_iret (v := 0) hQ hC hr hlk hH dX9_isWorks_11 rfl (Nat.le_of_ble_eq_true rfl) (Nat.le_of_ble_eq_true rfl) (()) rfl (by first | exact Or.inl ⟨w_inK (by omega) hg8.1 hg8.2, rfl⟩ | exact Or.inr ⟨w_outK (by omega) hg8, rfl⟩)
set_option maxHeartbeats 4000000 in
set_option maxRecDepth 100000 in
theorem k_X9_works (l : Launch) (D : va_G) (cI cZ : ClassId) (h : Nat) (zcoins : Nat) (zdebt : Nat) (zfines : Nat) (zreading : Nat) (zruleYear : Nat) (zruleWhat : Nat) (zruleShare : Nat) (zstate : Nat) (zholder : Nat) (zyearOf : Nat) (zusedIn : Nat) (zprojectOf : Nat) (zwent : Nat) (zbidWorks : Nat) (zbidMany : Nat) (zbidPrice : Nat) (zisFalse : Nat) (zcutMany : Nat) (ztonnes : Nat) (zcosts : Nat) (zgiven : Nat) (zcutOff : Nat) (zgot : Nat) (zcutsOf : Nat) (now : Nat) (wk : Nat) (rk : Nat) (k : Nat) (ii : Int32) (bk : Nat) (ac : Int32) (pj : Nat) (sm : Int32) (mg : Int32) (hwk : wk ≤ 10) : fx_CI l D cI cZ yX9_works wsX9_works ({ frames := 0, cells := 0, slots := 0, locals := 0 }) [.ref h] [(h, .inr (9, [.int (nI now), .int (nI wk), .ref zcoins, .ref zdebt, .ref zfines, .ref zreading, .int (nI rk), .ref zruleYear, .ref zruleWhat, .ref zruleShare, .int (nI k), .ref zstate, .ref zholder, .ref zyearOf, .ref zusedIn, .ref zprojectOf, .ref zwent, .int ii, .int (nI bk), .ref zbidWorks, .ref zbidMany, .ref zbidPrice, .int ac, .int (nI pj), .ref zisFalse, .ref zcutMany, .ref ztonnes, .ref zcosts, .ref zgiven, .ref zcutOff, .ref zgot, .ref zcutsOf, .int sm, .int mg]))] (fun (u : (Nat)) => [(h, .inr (9, [.int (nI now), .int (nI u), .ref zcoins, .ref zdebt, .ref zfines, .ref zreading, .int (nI rk), .ref zruleYear, .ref zruleWhat, .ref zruleShare, .int (nI k), .ref zstate, .ref zholder, .ref zyearOf, .ref zusedIn, .ref zprojectOf, .ref zwent, .int ii, .int (nI bk), .ref zbidWorks, .ref zbidMany, .ref zbidPrice, .int ac, .int (nI pj), .ref zisFalse, .ref zcutMany, .ref ztonnes, .ref zcosts, .ref zgiven, .ref zcutOff, .ref zgot, .ref zcutsOf, .int sm, .int mg]))]) (fun (r : Int32) (u : (Nat)) => ((wk < 10) ∧ r = nI wk ∧ u = wk + 1) ∨ ((¬ wk < 10) ∧ r = -1 ∧ u = wk)) := by
  refine fx_CI.of (ws' := (wsX9_works).tail) cX9_works 1 (by decide) rfl (Nat.le_of_ble_eq_true rfl) ?_
  intro zp ze zs zm za zb zt zc zA ls zQ hQ hC hr hlk hA hH hl
  have zx := hC.1.1
  have zy := hC.1.2.1
  have hl : lv_has ls 1 [(0, .ref h)] := hl
  refine lv_aload_n zx zy dX9_works_0 rfl (lv_at hl 0 rfl) ?_
  refine fx_get (C := RX9) (T := TX9) (N := 34) hC (fun _ h => List.mem_cons_of_mem _ (List.mem_append_right _ h)) hH 0 rfl rfl 1 (by decide) (by decide +kernel) rfl dX9_works_1 ?_
  refine lv_bipush (v := 10) zx zy dX9_works_4 (by decide) ?_
  refine lv_icmp_ne (tgt := 11) zx zy dX9_works_6 (by decide) (fun c6 => ?_) (fun c6 => ?_)
  · skip
    refine lv_aload_n zx zy dX9_works_11 rfl (lv_at hl 0 rfl) ?_
    refine lv_dup zx zy dX9_works_12 rfl ?_
    refine fx_get (C := RX9) (T := TX9) (N := 34) hC (fun _ h => List.mem_cons_of_mem _ (List.mem_append_right _ h)) hH 0 rfl rfl 1 (by decide) (by decide +kernel) rfl dX9_works_13 ?_
    refine lv_iconst (v := 1) zx zy dX9_works_16 (by decide) ?_
    refine lv_iadd zx zy dX9_works_17 ?_
    refine lv_topi (fun v1 ev1 => ?_)
    obtain rfl : v1 = nI (wk + 1) := ev1.trans (nI_1 wk)
    refine fx_put (C := RX9) (T := TX9) (N := 34) (ty := .int) (ws2 := [(h, .inr (9, [.int (nI now), .int (nI (wk + 1)), .ref zcoins, .ref zdebt, .ref zfines, .ref zreading, .int (nI rk), .ref zruleYear, .ref zruleWhat, .ref zruleShare, .int (nI k), .ref zstate, .ref zholder, .ref zyearOf, .ref zusedIn, .ref zprojectOf, .ref zwent, .int ii, .int (nI bk), .ref zbidWorks, .ref zbidMany, .ref zbidPrice, .int ac, .int (nI pj), .ref zisFalse, .ref zcutMany, .ref ztonnes, .ref zcosts, .ref zgiven, .ref zcutOff, .ref zgot, .ref zcutsOf, .int sm, .int mg]))]) hC (fun _ h => List.mem_cons_of_mem _ (List.mem_append_right _ h)) tyX9_ok nmX9 hH 0 rfl rfl 1 (by decide) (by decide +kernel) rfl rfl rfl rfl (Nat.le_of_ble_eq_true rfl) rfl dX9_works_18 (fun H locs hH => ?_)
    refine lv_aload_n zx zy dX9_works_21 rfl (lv_at hl 0 rfl) ?_
    refine fx_get (C := RX9) (T := TX9) (N := 34) hC (fun _ h => List.mem_cons_of_mem _ (List.mem_append_right _ h)) hH 0 rfl rfl 1 (by decide) (by decide +kernel) rfl dX9_works_22 ?_
    refine lv_iconst (v := 1) zx zy dX9_works_25 (by decide) ?_
    refine lv_isub zx zy dX9_works_26 ?_
    refine lv_topi (fun v2 ev2 => ?_)
    obtain rfl : v2 = nI wk := ev2.trans (nI_pred wk)
    exact fx_iret (v := nI wk) hQ hC hr hlk hH dX9_works_27 rfl (Nat.le_of_ble_eq_true rfl) (Nat.le_of_ble_eq_true rfl) ((wk + 1)) rfl (Or.inl ⟨Nat.lt_of_le_of_ne hwk (fun e => c6 (by rw [e]; rfl)), rfl, rfl⟩)
  · skip
    refine lv_iconst (v := (-1)) zx zy dX9_works_9 (by decide) ?_
    exact fx_iret (v := (-1)) hQ hC hr hlk hH dX9_works_10 rfl (Nat.le_of_ble_eq_true rfl) (Nat.le_of_ble_eq_true rfl) (wk) rfl (Or.inr ⟨fun h => absurd ((nI_eq (b := 10) (by omega) (by omega)).mp c6) (by omega), rfl, rfl⟩)
set_option maxHeartbeats 4000000 in
set_option maxRecDepth 100000 in
theorem k_X9_rule (l : Launch) (D : va_G) (cI cZ : ClassId) (h : Nat) (zcoins : Nat) (zdebt : Nat) (zfines : Nat) (zreading : Nat) (zruleYear : Nat) (zruleWhat : Nat) (zruleShare : Nat) (zstate : Nat) (zholder : Nat) (zyearOf : Nat) (zusedIn : Nat) (zprojectOf : Nat) (zwent : Nat) (zbidWorks : Nat) (zbidMany : Nat) (zbidPrice : Nat) (zisFalse : Nat) (zcutMany : Nat) (ztonnes : Nat) (zcosts : Nat) (zgiven : Nat) (zcutOff : Nat) (zgot : Nat) (zcutsOf : Nat) (now : Nat) (wk : Nat) (rk : Nat) (k : Nat) (ii : Int32) (bk : Nat) (ac : Int32) (pj : Nat) (sm : Int32) (mg : Int32) (RY : Nat → Int32) (RW : Nat → Int32) (RS : Nat → Int32) (x : Int32) (w : Int32) (s : Int32) (hk : rk ≤ 30) : fx_CI l D cI cZ yX9_rule wsX9_rule ({ frames := 1, cells := 0, slots := 0, locals := 22 }) [.ref h, .int x, .int w, .int s] [(h, .inr (9, [.int (nI now), .int (nI wk), .ref zcoins, .ref zdebt, .ref zfines, .ref zreading, .int (nI rk), .ref zruleYear, .ref zruleWhat, .ref zruleShare, .int (nI k), .ref zstate, .ref zholder, .ref zyearOf, .ref zusedIn, .ref zprojectOf, .ref zwent, .int ii, .int (nI bk), .ref zbidWorks, .ref zbidMany, .ref zbidPrice, .int ac, .int (nI pj), .ref zisFalse, .ref zcutMany, .ref ztonnes, .ref zcosts, .ref zgiven, .ref zcutOff, .ref zgot, .ref zcutsOf, .int sm, .int mg])), (zruleYear, .inl (cI, 30, .inl RY)), (zruleWhat, .inl (cI, 30, .inl RW)), (zruleShare, .inl (cI, 30, .inl RS))] (fun (u : (Nat) × (Nat → Int32) × (Nat → Int32) × (Nat → Int32)) => [(h, .inr (9, [.int (nI now), .int (nI wk), .ref zcoins, .ref zdebt, .ref zfines, .ref zreading, .int (nI u.1), .ref zruleYear, .ref zruleWhat, .ref zruleShare, .int (nI k), .ref zstate, .ref zholder, .ref zyearOf, .ref zusedIn, .ref zprojectOf, .ref zwent, .int ii, .int (nI bk), .ref zbidWorks, .ref zbidMany, .ref zbidPrice, .int ac, .int (nI pj), .ref zisFalse, .ref zcutMany, .ref ztonnes, .ref zcosts, .ref zgiven, .ref zcutOff, .ref zgot, .ref zcutsOf, .int sm, .int mg])), (zruleYear, .inl (cI, 30, .inl u.2.1)), (zruleWhat, .inl (cI, 30, .inl u.2.2.1)), (zruleShare, .inl (cI, 30, .inl u.2.2.2))]) (fun (r : Int32) (u : (Nat) × (Nat → Int32) × (Nat → Int32) × (Nat → Int32)) => ((ruOk rk x w s) ∧ r = 1 ∧ u.1 = rk + 1 ∧ u.2.1 = upd RY rk x ∧ u.2.2.1 = upd RW rk w ∧ u.2.2.2 = upd RS rk s) ∨ ((¬ ruOk rk x w s) ∧ r = 0 ∧ u.1 = rk ∧ u.2.1 = RY ∧ u.2.2.1 = RW ∧ u.2.2.2 = RS)) := by
  refine fx_CI.of (ws' := (wsX9_rule).tail) cX9_rule 4 (by decide) rfl (Nat.le_of_ble_eq_true rfl) ?_
  intro zp ze zs zm za zb zt zc zA ls zQ hQ hC hr hlk hA hH hl
  have zx := hC.1.1
  have zy := hC.1.2.1
  have hl : lv_has ls 4 [(0, .ref h), (1, .int x), (2, .int w), (3, .int s)] := hl
  refine lv_iload_n zx zy dX9_rule_0 rfl (lv_at hl 1 rfl) ?_
  refine lv_iconst (v := 0) zx zy dX9_rule_1 (by decide) ?_
  refine lv_bipush (v := 19) zx zy dX9_rule_2 (by decide) ?_
  refine fx_cSi (n := 3) (As := [.int x, .int 0, .int 19]) (rest := []) hC hA hH (k_X9_in l D cI cZ x 0 19) ⟨rfl, rfl⟩ rfl gX9_rule_X9_in (by decide +kernel) ⟨Nat.le_of_ble_eq_true rfl, Nat.le_of_ble_eq_true rfl⟩ rfl rfl hl.1 (Nat.le_of_ble_eq_true rfl) ⟨(Nat.le_of_ble_eq_true rfl), (Nat.le_of_ble_eq_true rfl)⟩ dX9_rule_4 (fun r1 H locs hw4 hH => ?_)
  rcases hw4 with ⟨hg4, rfl⟩ | ⟨hg4, rfl⟩
  · skip
    have hH := (hH : fx_H zA zs.heap H locs D [(h, .inr (9, [.int (nI now), .int (nI wk), .ref zcoins, .ref zdebt, .ref zfines, .ref zreading, .int (nI rk), .ref zruleYear, .ref zruleWhat, .ref zruleShare, .int (nI k), .ref zstate, .ref zholder, .ref zyearOf, .ref zusedIn, .ref zprojectOf, .ref zwent, .int ii, .int (nI bk), .ref zbidWorks, .ref zbidMany, .ref zbidPrice, .int ac, .int (nI pj), .ref zisFalse, .ref zcutMany, .ref ztonnes, .ref zcosts, .ref zgiven, .ref zcutOff, .ref zgot, .ref zcutsOf, .int sm, .int mg])), (zruleYear, .inl (cI, 30, .inl RY)), (zruleWhat, .inl (cI, 30, .inl RW)), (zruleShare, .inl (cI, 30, .inl RS))])
    refine lv_if_eq (tgt := 71) zx zy dX9_rule_7 (by decide) (fun c7 => ?_) (fun c7 => ?_)
    · exact absurd c7 (by decide)
    · skip
      refine lv_iload_n zx zy dX9_rule_10 rfl (lv_at hl 2 rfl) ?_
      refine lv_if_lt (tgt := 71) zx zy dX9_rule_11 (by decide) (fun c11 => ?_) (fun c11 => ?_)
      · skip
        refine lv_iconst (v := 0) zx zy dX9_rule_71 (by decide) ?_
        exact fx_iret (v := 0) hQ hC hr hlk hH dX9_rule_72 rfl (Nat.le_of_ble_eq_true rfl) (Nat.le_of_ble_eq_true rfl) ((rk, RY, RW, RS)) rfl (Or.inr ⟨fun z => by first | exact w_out (N := 19) (by omega) hg4 z.1 | exact z.2.1 c11 | exact absurd c15 (Int32.not_lt.mpr z.2.2.1) | exact z.2.2.2.2.1 c26 | exact z.2.2.2.2.2.1 c36 | exact absurd c45 (Int32.not_lt.mpr z.2.2.2.2.2.2) | exact absurd z.2.2.2.1 (by rw [(nI_eq (b := 30) (by omega) (by omega)).mp c68]; omega), rfl, rfl, rfl, rfl, rfl⟩)
      · skip
        refine lv_iload_n zx zy dX9_rule_14 rfl (lv_at hl 3 rfl) ?_
        refine lv_if_lt (tgt := 71) zx zy dX9_rule_15 (by decide) (fun c15 => ?_) (fun c15 => ?_)
        · skip
          refine lv_iconst (v := 0) zx zy dX9_rule_71 (by decide) ?_
          exact fx_iret (v := 0) hQ hC hr hlk hH dX9_rule_72 rfl (Nat.le_of_ble_eq_true rfl) (Nat.le_of_ble_eq_true rfl) ((rk, RY, RW, RS)) rfl (Or.inr ⟨fun z => by first | exact w_out (N := 19) (by omega) hg4 z.1 | exact z.2.1 c11 | exact absurd c15 (Int32.not_lt.mpr z.2.2.1) | exact z.2.2.2.2.1 c26 | exact z.2.2.2.2.2.1 c36 | exact absurd c45 (Int32.not_lt.mpr z.2.2.2.2.2.2) | exact absurd z.2.2.2.1 (by rw [(nI_eq (b := 30) (by omega) (by omega)).mp c68]; omega), rfl, rfl, rfl, rfl, rfl⟩)
        · skip
          refine lv_iload_n zx zy dX9_rule_18 rfl (lv_at hl 2 rfl) ?_
          refine lv_sipush (v := 1000) zx zy dX9_rule_19 (by decide) ?_
          refine lv_idiv zx zy dX9_rule_22 (by decide) ?_
          refine lv_sipush (v := 400) zx zy dX9_rule_23 (by decide) ?_
          refine lv_icmp_gt (tgt := 71) zx zy dX9_rule_26 (by decide) (fun c26 => ?_) (fun c26 => ?_)
          · skip
            refine lv_iconst (v := 0) zx zy dX9_rule_71 (by decide) ?_
            exact fx_iret (v := 0) hQ hC hr hlk hH dX9_rule_72 rfl (Nat.le_of_ble_eq_true rfl) (Nat.le_of_ble_eq_true rfl) ((rk, RY, RW, RS)) rfl (Or.inr ⟨fun z => by first | exact w_out (N := 19) (by omega) hg4 z.1 | exact z.2.1 c11 | exact absurd c15 (Int32.not_lt.mpr z.2.2.1) | exact z.2.2.2.2.1 c26 | exact z.2.2.2.2.2.1 c36 | exact absurd c45 (Int32.not_lt.mpr z.2.2.2.2.2.2) | exact absurd z.2.2.2.1 (by rw [(nI_eq (b := 30) (by omega) (by omega)).mp c68]; omega), rfl, rfl, rfl, rfl, rfl⟩)
          · skip
            refine lv_iload_n zx zy dX9_rule_29 rfl (lv_at hl 2 rfl) ?_
            refine lv_sipush (v := 1000) zx zy dX9_rule_30 (by decide) ?_
            refine lv_irem zx zy dX9_rule_33 (by decide) ?_
            refine lv_bipush (v := 100) zx zy dX9_rule_34 (by decide) ?_
            refine lv_icmp_gt (tgt := 71) zx zy dX9_rule_36 (by decide) (fun c36 => ?_) (fun c36 => ?_)
            · skip
              refine lv_iconst (v := 0) zx zy dX9_rule_71 (by decide) ?_
              exact fx_iret (v := 0) hQ hC hr hlk hH dX9_rule_72 rfl (Nat.le_of_ble_eq_true rfl) (Nat.le_of_ble_eq_true rfl) ((rk, RY, RW, RS)) rfl (Or.inr ⟨fun z => by first | exact w_out (N := 19) (by omega) hg4 z.1 | exact z.2.1 c11 | exact absurd c15 (Int32.not_lt.mpr z.2.2.1) | exact z.2.2.2.2.1 c26 | exact z.2.2.2.2.2.1 c36 | exact absurd c45 (Int32.not_lt.mpr z.2.2.2.2.2.2) | exact absurd z.2.2.2.1 (by rw [(nI_eq (b := 30) (by omega) (by omega)).mp c68]; omega), rfl, rfl, rfl, rfl, rfl⟩)
            · skip
              refine lv_iload_n zx zy dX9_rule_39 rfl (lv_at hl 3 rfl) ?_
              refine lv_ldc (own := RX9) (v := 100000) zx zy hC.1.2.2.2.1 (hC.1.2.2.2.2 _ (by decide +kernel)) dX9_rule_40 ?_
              refine lv_idiv zx zy dX9_rule_42 (by decide) ?_
              refine lv_bipush (v := 100) zx zy dX9_rule_43 (by decide) ?_
              refine lv_icmp_gt (tgt := 71) zx zy dX9_rule_45 (by decide) (fun c45 => ?_) (fun c45 => ?_)
              · skip
                refine lv_iconst (v := 0) zx zy dX9_rule_71 (by decide) ?_
                exact fx_iret (v := 0) hQ hC hr hlk hH dX9_rule_72 rfl (Nat.le_of_ble_eq_true rfl) (Nat.le_of_ble_eq_true rfl) ((rk, RY, RW, RS)) rfl (Or.inr ⟨fun z => by first | exact w_out (N := 19) (by omega) hg4 z.1 | exact z.2.1 c11 | exact absurd c15 (Int32.not_lt.mpr z.2.2.1) | exact z.2.2.2.2.1 c26 | exact z.2.2.2.2.2.1 c36 | exact absurd c45 (Int32.not_lt.mpr z.2.2.2.2.2.2) | exact absurd z.2.2.2.1 (by rw [(nI_eq (b := 30) (by omega) (by omega)).mp c68]; omega), rfl, rfl, rfl, rfl, rfl⟩)
              · skip
                refine lv_iload_n zx zy dX9_rule_48 rfl (lv_at hl 3 rfl) ?_
                refine lv_bipush (v := 100) zx zy dX9_rule_49 (by decide) ?_
                refine lv_idiv zx zy dX9_rule_51 (by decide) ?_
                refine lv_sipush (v := 1000) zx zy dX9_rule_52 (by decide) ?_
                refine lv_irem zx zy dX9_rule_55 (by decide) ?_
                refine lv_sipush (v := 999) zx zy dX9_rule_56 (by decide) ?_
                refine lv_icmp_gt (tgt := 71) zx zy dX9_rule_59 (by decide) (fun c59 => ?_) (fun c59 => ?_)
                · skip
                  exact absurd c59 (rem_le c15)
                · skip
                  refine lv_aload_n zx zy dX9_rule_62 rfl (lv_at hl 0 rfl) ?_
                  refine fx_get (C := RX9) (T := TX9) (N := 34) hC (fun _ h => List.mem_cons_of_mem _ (List.mem_append_right _ h)) hH 0 rfl rfl 6 (by decide) (by decide +kernel) rfl dX9_rule_63 ?_
                  refine lv_bipush (v := 30) zx zy dX9_rule_66 (by decide) ?_
                  refine lv_icmp_ne (tgt := 73) zx zy dX9_rule_68 (by decide) (fun c68 => ?_) (fun c68 => ?_)
                  · skip
                    have hlt : rk < 30 := Nat.lt_of_le_of_ne hk (fun e => c68 (by rw [e]; rfl))
                    refine lv_aload_n zx zy dX9_rule_73 rfl (lv_at hl 0 rfl) ?_
                    refine fx_get (C := RX9) (T := TX9) (N := 34) hC (fun _ h => List.mem_cons_of_mem _ (List.mem_append_right _ h)) hH 0 rfl rfl 7 (by decide) (by decide +kernel) rfl dX9_rule_74 ?_
                    refine lv_aload_n zx zy dX9_rule_77 rfl (lv_at hl 0 rfl) ?_
                    refine fx_get (C := RX9) (T := TX9) (N := 34) hC (fun _ h => List.mem_cons_of_mem _ (List.mem_append_right _ h)) hH 0 rfl rfl 6 (by decide) (by decide +kernel) rfl dX9_rule_78 ?_
                    refine lv_iload_n zx zy dX9_rule_81 rfl (lv_at hl 1 rfl) ?_
                    refine fx_ist (ws2 := [(h, .inr (9, [.int (nI now), .int (nI wk), .ref zcoins, .ref zdebt, .ref zfines, .ref zreading, .int (nI rk), .ref zruleYear, .ref zruleWhat, .ref zruleShare, .int (nI k), .ref zstate, .ref zholder, .ref zyearOf, .ref zusedIn, .ref zprojectOf, .ref zwent, .int ii, .int (nI bk), .ref zbidWorks, .ref zbidMany, .ref zbidPrice, .int ac, .int (nI pj), .ref zisFalse, .ref zcutMany, .ref ztonnes, .ref zcosts, .ref zgiven, .ref zcutOff, .ref zgot, .ref zcutsOf, .int sm, .int mg])), (zruleYear, .inl (cI, 30, .inl (upd RY (nI rk).toNatClampNeg x))), (zruleWhat, .inl (cI, 30, .inl RW)), (zruleShare, .inl (cI, 30, .inl RS))]) hC hH 1 rfl (vp_in_nI (by omega) (by omega)) rfl dX9_rule_82 (fun H locs hH => ?_)
                    rw [show (upd RY (nI rk).toNatClampNeg x : Nat → Int32) = upd RY rk x from (by rw [nI_clamp (by omega)])] at hH
                    refine lv_aload_n zx zy dX9_rule_83 rfl (lv_at hl 0 rfl) ?_
                    refine fx_get (C := RX9) (T := TX9) (N := 34) hC (fun _ h => List.mem_cons_of_mem _ (List.mem_append_right _ h)) hH 0 rfl rfl 8 (by decide) (by decide +kernel) rfl dX9_rule_84 ?_
                    refine lv_aload_n zx zy dX9_rule_87 rfl (lv_at hl 0 rfl) ?_
                    refine fx_get (C := RX9) (T := TX9) (N := 34) hC (fun _ h => List.mem_cons_of_mem _ (List.mem_append_right _ h)) hH 0 rfl rfl 6 (by decide) (by decide +kernel) rfl dX9_rule_88 ?_
                    refine lv_iload_n zx zy dX9_rule_91 rfl (lv_at hl 2 rfl) ?_
                    refine fx_ist (ws2 := [(h, .inr (9, [.int (nI now), .int (nI wk), .ref zcoins, .ref zdebt, .ref zfines, .ref zreading, .int (nI rk), .ref zruleYear, .ref zruleWhat, .ref zruleShare, .int (nI k), .ref zstate, .ref zholder, .ref zyearOf, .ref zusedIn, .ref zprojectOf, .ref zwent, .int ii, .int (nI bk), .ref zbidWorks, .ref zbidMany, .ref zbidPrice, .int ac, .int (nI pj), .ref zisFalse, .ref zcutMany, .ref ztonnes, .ref zcosts, .ref zgiven, .ref zcutOff, .ref zgot, .ref zcutsOf, .int sm, .int mg])), (zruleYear, .inl (cI, 30, .inl (upd RY rk x))), (zruleWhat, .inl (cI, 30, .inl (upd RW (nI rk).toNatClampNeg w))), (zruleShare, .inl (cI, 30, .inl RS))]) hC hH 2 rfl (vp_in_nI (by omega) (by omega)) rfl dX9_rule_92 (fun H locs hH => ?_)
                    rw [show (upd RW (nI rk).toNatClampNeg w : Nat → Int32) = upd RW rk w from (by rw [nI_clamp (by omega)])] at hH
                    refine lv_aload_n zx zy dX9_rule_93 rfl (lv_at hl 0 rfl) ?_
                    refine fx_get (C := RX9) (T := TX9) (N := 34) hC (fun _ h => List.mem_cons_of_mem _ (List.mem_append_right _ h)) hH 0 rfl rfl 9 (by decide) (by decide +kernel) rfl dX9_rule_94 ?_
                    refine lv_aload_n zx zy dX9_rule_97 rfl (lv_at hl 0 rfl) ?_
                    refine fx_get (C := RX9) (T := TX9) (N := 34) hC (fun _ h => List.mem_cons_of_mem _ (List.mem_append_right _ h)) hH 0 rfl rfl 6 (by decide) (by decide +kernel) rfl dX9_rule_98 ?_
                    refine lv_iload_n zx zy dX9_rule_101 rfl (lv_at hl 3 rfl) ?_
                    refine fx_ist (ws2 := [(h, .inr (9, [.int (nI now), .int (nI wk), .ref zcoins, .ref zdebt, .ref zfines, .ref zreading, .int (nI rk), .ref zruleYear, .ref zruleWhat, .ref zruleShare, .int (nI k), .ref zstate, .ref zholder, .ref zyearOf, .ref zusedIn, .ref zprojectOf, .ref zwent, .int ii, .int (nI bk), .ref zbidWorks, .ref zbidMany, .ref zbidPrice, .int ac, .int (nI pj), .ref zisFalse, .ref zcutMany, .ref ztonnes, .ref zcosts, .ref zgiven, .ref zcutOff, .ref zgot, .ref zcutsOf, .int sm, .int mg])), (zruleYear, .inl (cI, 30, .inl (upd RY rk x))), (zruleWhat, .inl (cI, 30, .inl (upd RW rk w))), (zruleShare, .inl (cI, 30, .inl (upd RS (nI rk).toNatClampNeg s)))]) hC hH 3 rfl (vp_in_nI (by omega) (by omega)) rfl dX9_rule_102 (fun H locs hH => ?_)
                    rw [show (upd RS (nI rk).toNatClampNeg s : Nat → Int32) = upd RS rk s from (by rw [nI_clamp (by omega)])] at hH
                    refine lv_aload_n zx zy dX9_rule_103 rfl (lv_at hl 0 rfl) ?_
                    refine lv_dup zx zy dX9_rule_104 rfl ?_
                    refine fx_get (C := RX9) (T := TX9) (N := 34) hC (fun _ h => List.mem_cons_of_mem _ (List.mem_append_right _ h)) hH 0 rfl rfl 6 (by decide) (by decide +kernel) rfl dX9_rule_105 ?_
                    refine lv_iconst (v := 1) zx zy dX9_rule_108 (by decide) ?_
                    refine lv_iadd zx zy dX9_rule_109 ?_
                    refine lv_topi (fun v2 ev2 => ?_)
                    obtain rfl : v2 = nI (rk + 1) := ev2.trans (nI_1 rk)
                    refine fx_put (C := RX9) (T := TX9) (N := 34) (ty := .int) (ws2 := [(h, .inr (9, [.int (nI now), .int (nI wk), .ref zcoins, .ref zdebt, .ref zfines, .ref zreading, .int (nI (rk + 1)), .ref zruleYear, .ref zruleWhat, .ref zruleShare, .int (nI k), .ref zstate, .ref zholder, .ref zyearOf, .ref zusedIn, .ref zprojectOf, .ref zwent, .int ii, .int (nI bk), .ref zbidWorks, .ref zbidMany, .ref zbidPrice, .int ac, .int (nI pj), .ref zisFalse, .ref zcutMany, .ref ztonnes, .ref zcosts, .ref zgiven, .ref zcutOff, .ref zgot, .ref zcutsOf, .int sm, .int mg])), (zruleYear, .inl (cI, 30, .inl (upd RY rk x))), (zruleWhat, .inl (cI, 30, .inl (upd RW rk w))), (zruleShare, .inl (cI, 30, .inl (upd RS rk s)))]) hC (fun _ h => List.mem_cons_of_mem _ (List.mem_append_right _ h)) tyX9_ok nmX9 hH 0 rfl rfl 6 (by decide) (by decide +kernel) rfl rfl rfl rfl (Nat.le_of_ble_eq_true rfl) rfl dX9_rule_110 (fun H locs hH => ?_)
                    refine lv_iconst (v := 1) zx zy dX9_rule_113 (by decide) ?_
                    exact fx_iret (v := 1) hQ hC hr hlk hH dX9_rule_114 rfl (Nat.le_of_ble_eq_true rfl) (Nat.le_of_ble_eq_true rfl) (((rk + 1), upd RY rk x, upd RW rk w, upd RS rk s)) rfl (Or.inl ⟨⟨w_in (N := 19) (by omega) hg4.1 hg4.2, c11, i_nlt c15, hlt, c26, c36, i_nlt c45⟩, rfl, rfl, rfl, rfl, rfl⟩)
                  · skip
                    refine lv_iconst (v := 0) zx zy dX9_rule_71 (by decide) ?_
                    exact fx_iret (v := 0) hQ hC hr hlk hH dX9_rule_72 rfl (Nat.le_of_ble_eq_true rfl) (Nat.le_of_ble_eq_true rfl) ((rk, RY, RW, RS)) rfl (Or.inr ⟨fun z => by first | exact w_out (N := 19) (by omega) hg4 z.1 | exact z.2.1 c11 | exact absurd c15 (Int32.not_lt.mpr z.2.2.1) | exact z.2.2.2.2.1 c26 | exact z.2.2.2.2.2.1 c36 | exact absurd c45 (Int32.not_lt.mpr z.2.2.2.2.2.2) | exact absurd z.2.2.2.1 (by rw [(nI_eq (b := 30) (by omega) (by omega)).mp c68]; omega), rfl, rfl, rfl, rfl, rfl⟩)
  · skip
    have hH := (hH : fx_H zA zs.heap H locs D [(h, .inr (9, [.int (nI now), .int (nI wk), .ref zcoins, .ref zdebt, .ref zfines, .ref zreading, .int (nI rk), .ref zruleYear, .ref zruleWhat, .ref zruleShare, .int (nI k), .ref zstate, .ref zholder, .ref zyearOf, .ref zusedIn, .ref zprojectOf, .ref zwent, .int ii, .int (nI bk), .ref zbidWorks, .ref zbidMany, .ref zbidPrice, .int ac, .int (nI pj), .ref zisFalse, .ref zcutMany, .ref ztonnes, .ref zcosts, .ref zgiven, .ref zcutOff, .ref zgot, .ref zcutsOf, .int sm, .int mg])), (zruleYear, .inl (cI, 30, .inl RY)), (zruleWhat, .inl (cI, 30, .inl RW)), (zruleShare, .inl (cI, 30, .inl RS))])
    refine lv_if_eq (tgt := 71) zx zy dX9_rule_7 (by decide) (fun c7 => ?_) (fun c7 => ?_)
    · skip
      refine lv_iconst (v := 0) zx zy dX9_rule_71 (by decide) ?_
      exact fx_iret (v := 0) hQ hC hr hlk hH dX9_rule_72 rfl (Nat.le_of_ble_eq_true rfl) (Nat.le_of_ble_eq_true rfl) ((rk, RY, RW, RS)) rfl (Or.inr ⟨fun z => by first | exact w_out (N := 19) (by omega) hg4 z.1 | exact z.2.1 c11 | exact absurd c15 (Int32.not_lt.mpr z.2.2.1) | exact z.2.2.2.2.1 c26 | exact z.2.2.2.2.2.1 c36 | exact absurd c45 (Int32.not_lt.mpr z.2.2.2.2.2.2) | exact absurd z.2.2.2.1 (by rw [(nI_eq (b := 30) (by omega) (by omega)).mp c68]; omega), rfl, rfl, rfl, rfl, rfl⟩)
    · exact absurd c7 (by decide)
set_option maxHeartbeats 4000000 in
set_option maxRecDepth 100000 in
theorem k_X9_ruleOf (l : Launch) (D : va_G) (cI cZ : ClassId) (h : Nat) (zcoins : Nat) (zdebt : Nat) (zfines : Nat) (zreading : Nat) (zruleYear : Nat) (zruleWhat : Nat) (zruleShare : Nat) (zstate : Nat) (zholder : Nat) (zyearOf : Nat) (zusedIn : Nat) (zprojectOf : Nat) (zwent : Nat) (zbidWorks : Nat) (zbidMany : Nat) (zbidPrice : Nat) (zisFalse : Nat) (zcutMany : Nat) (ztonnes : Nat) (zcosts : Nat) (zgiven : Nat) (zcutOff : Nat) (zgot : Nat) (zcutsOf : Nat) (now : Nat) (wk : Nat) (rk : Nat) (k : Nat) (ii : Int32) (bk : Nat) (ac : Int32) (pj : Nat) (sm : Int32) (mg : Int32) (RY : Nat → Int32) (y : Int32) (hk : rk ≤ 30) : fx_CI l D cI cZ yX9_ruleOf wsX9_ruleOf ({ frames := 0, cells := 0, slots := 0, locals := 0 }) [.ref h, .int y] [(h, .inr (9, [.int (nI now), .int (nI wk), .ref zcoins, .ref zdebt, .ref zfines, .ref zreading, .int (nI rk), .ref zruleYear, .ref zruleWhat, .ref zruleShare, .int (nI k), .ref zstate, .ref zholder, .ref zyearOf, .ref zusedIn, .ref zprojectOf, .ref zwent, .int ii, .int (nI bk), .ref zbidWorks, .ref zbidMany, .ref zbidPrice, .int ac, .int (nI pj), .ref zisFalse, .ref zcutMany, .ref ztonnes, .ref zcosts, .ref zgiven, .ref zcutOff, .ref zgot, .ref zcutsOf, .int sm, .int mg])), (zruleYear, .inl (cI, 30, .inl RY))] (fun (u : Unit) => [(h, .inr (9, [.int (nI now), .int (nI wk), .ref zcoins, .ref zdebt, .ref zfines, .ref zreading, .int (nI rk), .ref zruleYear, .ref zruleWhat, .ref zruleShare, .int (nI k), .ref zstate, .ref zholder, .ref zyearOf, .ref zusedIn, .ref zprojectOf, .ref zwent, .int ii, .int (nI bk), .ref zbidWorks, .ref zbidMany, .ref zbidPrice, .int ac, .int (nI pj), .ref zisFalse, .ref zcutMany, .ref ztonnes, .ref zcosts, .ref zgiven, .ref zcutOff, .ref zgot, .ref zcutsOf, .int sm, .int mg])), (zruleYear, .inl (cI, 30, .inl RY))]) (fun (r : Int32) (u : Unit) => r = inF RY y rk) := by
  refine fx_CI.of (ws' := (wsX9_ruleOf).tail) cX9_ruleOf 4 (by decide) rfl (Nat.le_of_ble_eq_true rfl) ?_
  intro zp ze zs zm za zb zt zc zA ls zQ hQ hC hr hlk hA hH hl
  have zx := hC.1.1
  have zy := hC.1.2.1
  have hl : lv_has ls 4 [(0, .ref h), (1, .int y)] := hl
  refine lv_iconst (v := (-1)) zx zy dX9_ruleOf_0 (by decide) ?_
  refine lv_istore_n (lv' := [(2, .int (-1)), (0, .ref h), (1, .int y)]) zx zy dX9_ruleOf_1 rfl hl (by decide) rfl (fun ls hl => ?_)
  refine lv_iconst (v := 0) zx zy dX9_ruleOf_2 (by decide) ?_
  refine lv_topi (fun v1 ev1 => ?_)
  obtain rfl : v1 = nI 0 := ev1.trans (rfl)
  refine lv_istore_n (lv' := [(3, .int (nI 0)), (2, .int (-1)), (0, .ref h), (1, .int y)]) zx zy dX9_ruleOf_3 rfl hl (by decide) rfl (fun ls hl => ?_)
  have L4 : ∀ (fu : Nat) (i : Nat) (b : Int32) (hi : i ≤ rk) (hb : b = inF RY y i) (H : Heap) (locs : List Loc) (ls : Array Slot), rk - i < fu → fx_H zA zs.heap H locs D [(h, .inr (9, [.int (nI now), .int (nI wk), .ref zcoins, .ref zdebt, .ref zfines, .ref zreading, .int (nI rk), .ref zruleYear, .ref zruleWhat, .ref zruleShare, .int (nI k), .ref zstate, .ref zholder, .ref zyearOf, .ref zusedIn, .ref zprojectOf, .ref zwent, .int ii, .int (nI bk), .ref zbidWorks, .ref zbidMany, .ref zbidPrice, .int ac, .int (nI pj), .ref zisFalse, .ref zcutMany, .ref ztonnes, .ref zcosts, .ref zgiven, .ref zcutOff, .ref zgot, .ref zcutsOf, .int sm, .int mg])), (zruleYear, .inl (cI, 30, .inl RY))] → lv_has ls 4 [(0, .ref h), (1, .int y), (2, .int b), (3, .int (nI i))] → W zp l ze ({ frames := 0, cells := 0, slots := 0, locals := 0 }) zs zm za zb zt zc H locs (0) (0) zQ (F0 zm 4 ls []) := by
    intro fu
    induction fu with
    | zero => intro i b hi hb H locs ls hfu; exact absurd hfu (Nat.not_lt_zero _)
    | succ fu ih4 =>
      intro i b hi hb H locs ls hfu4 hH hl
      refine lv_iload_n zx zy dX9_ruleOf_4 rfl (lv_at hl 3 rfl) ?_
      refine lv_aload_n zx zy dX9_ruleOf_5 rfl (lv_at hl 0 rfl) ?_
      refine fx_get (C := RX9) (T := TX9) (N := 34) hC (fun _ h => List.mem_cons_of_mem _ (List.mem_append_right _ h)) hH 0 rfl rfl 6 (by decide) (by decide +kernel) rfl dX9_ruleOf_6 ?_
      refine lv_icmp_ge (tgt := 50) zx zy dX9_ruleOf_9 (by decide) (fun c9 => ?_) (fun c9 => ?_)
      · skip
        refine lv_iload_n zx zy dX9_ruleOf_50 rfl (lv_at hl 2 rfl) ?_
        exact fx_iret (v := b) hQ hC hr hlk hH dX9_ruleOf_51 rfl (Nat.le_of_ble_eq_true rfl) (Nat.le_of_ble_eq_true rfl) (()) rfl (by rw [hb, Nat.le_antisymm hi (fx_le_of c9 (by omega) (by omega))])
      · skip
        have hlt : i < rk := fx_lt_of c9 (by omega)
        refine lv_aload_n zx zy dX9_ruleOf_12 rfl (lv_at hl 0 rfl) ?_
        refine fx_get (C := RX9) (T := TX9) (N := 34) hC (fun _ h => List.mem_cons_of_mem _ (List.mem_append_right _ h)) hH 0 rfl rfl 7 (by decide) (by decide +kernel) rfl dX9_ruleOf_13 ?_
        refine lv_iload_n zx zy dX9_ruleOf_16 rfl (lv_at hl 3 rfl) ?_
        refine fx_ild hC hH 1 rfl (vp_in_nI (by omega) (by omega)) dX9_ruleOf_17 ?_
        refine lv_topi (fun v2 ev2 => ?_)
        obtain rfl : v2 = RY i := ev2.trans (congrArg RY (nI_clamp (by omega)))
        refine lv_iload_n zx zy dX9_ruleOf_18 rfl (lv_at hl 1 rfl) ?_
        refine lv_icmp_gt (tgt := 44) zx zy dX9_ruleOf_19 (by decide) (fun c19 => ?_) (fun c19 => ?_)
        · skip
          refine lv_iinc (v := nI (i + 1)) (lv' := [(3, .int (nI (i + 1))), (0, .ref h), (1, .int y), (2, .int b)]) zx zy dX9_ruleOf_44 hl (k := 3) rfl (nI_1 _) (by decide) rfl (fun ls hl => ?_)
          refine lv_goto (tgt := 4) zx zy dX9_ruleOf_47 (by decide) ?_
          exact ih4 (i + 1) b (by first | assumption | omega) (by subst hb; first | exact (if_pos c19).symm | exact ((if_neg c19).trans (if_pos c24)).symm | exact ((if_neg c19).trans ((if_neg c24).trans (if_pos c39))).symm | exact ((if_neg c19).trans ((if_neg c24).trans (if_neg c39))).symm) _ _ _ (by omega) hH (lv_sub hl [1, 2, 3, 0] rfl)
        · skip
          refine lv_iload_n zx zy dX9_ruleOf_22 rfl (lv_at hl 2 rfl) ?_
          refine lv_iconst (v := (-1)) zx zy dX9_ruleOf_23 (by decide) ?_
          refine lv_icmp_eq (tgt := 42) zx zy dX9_ruleOf_24 (by decide) (fun c24 => ?_) (fun c24 => ?_)
          · skip
            refine lv_iload_n zx zy dX9_ruleOf_42 rfl (lv_at hl 3 rfl) ?_
            refine lv_istore_n (lv' := [(2, .int (nI i)), (0, .ref h), (1, .int y), (3, .int (nI i))]) zx zy dX9_ruleOf_43 rfl hl (by decide) rfl (fun ls hl => ?_)
            refine lv_iinc (v := nI (i + 1)) (lv' := [(3, .int (nI (i + 1))), (2, .int (nI i)), (0, .ref h), (1, .int y)]) zx zy dX9_ruleOf_44 hl (k := 3) rfl (nI_1 _) (by decide) rfl (fun ls hl => ?_)
            refine lv_goto (tgt := 4) zx zy dX9_ruleOf_47 (by decide) ?_
            exact ih4 (i + 1) (nI i) (by first | assumption | omega) (by subst hb; first | exact (if_pos c19).symm | exact ((if_neg c19).trans (if_pos c24)).symm | exact ((if_neg c19).trans ((if_neg c24).trans (if_pos c39))).symm | exact ((if_neg c19).trans ((if_neg c24).trans (if_neg c39))).symm) _ _ _ (by omega) hH (lv_sub hl [2, 3, 1, 0] rfl)
          · skip
            have hin := inF_in (k := i) (by omega) hb c24
            refine lv_aload_n zx zy dX9_ruleOf_27 rfl (lv_at hl 0 rfl) ?_
            refine fx_get (C := RX9) (T := TX9) (N := 34) hC (fun _ h => List.mem_cons_of_mem _ (List.mem_append_right _ h)) hH 0 rfl rfl 7 (by decide) (by decide +kernel) rfl dX9_ruleOf_28 ?_
            refine lv_iload_n zx zy dX9_ruleOf_31 rfl (lv_at hl 3 rfl) ?_
            refine fx_ild hC hH 1 rfl (vp_in_nI (by omega) (by omega)) dX9_ruleOf_32 ?_
            refine lv_topi (fun v3 ev3 => ?_)
            obtain rfl : v3 = RY i := ev3.trans (congrArg RY (nI_clamp (by omega)))
            refine lv_aload_n zx zy dX9_ruleOf_33 rfl (lv_at hl 0 rfl) ?_
            refine fx_get (C := RX9) (T := TX9) (N := 34) hC (fun _ h => List.mem_cons_of_mem _ (List.mem_append_right _ h)) hH 0 rfl rfl 7 (by decide) (by decide +kernel) rfl dX9_ruleOf_34 ?_
            refine lv_iload_n zx zy dX9_ruleOf_37 rfl (lv_at hl 2 rfl) ?_
            refine fx_ild hC hH 1 rfl hin dX9_ruleOf_38 ?_
            refine lv_topi (fun v4 ev4 => ?_)
            obtain rfl : v4 = rAt 30 RY b := ev4.trans ((rAt_c hin).symm)
            refine lv_icmp_lt (tgt := 44) zx zy dX9_ruleOf_39 (by decide) (fun c39 => ?_) (fun c39 => ?_)
            · skip
              refine lv_iinc (v := nI (i + 1)) (lv' := [(3, .int (nI (i + 1))), (0, .ref h), (1, .int y), (2, .int b)]) zx zy dX9_ruleOf_44 hl (k := 3) rfl (nI_1 _) (by decide) rfl (fun ls hl => ?_)
              refine lv_goto (tgt := 4) zx zy dX9_ruleOf_47 (by decide) ?_
              exact ih4 (i + 1) b (by first | assumption | omega) (by subst hb; first | exact (if_pos c19).symm | exact ((if_neg c19).trans (if_pos c24)).symm | exact ((if_neg c19).trans ((if_neg c24).trans (if_pos c39))).symm | exact ((if_neg c19).trans ((if_neg c24).trans (if_neg c39))).symm) _ _ _ (by omega) hH (lv_sub hl [1, 2, 3, 0] rfl)
            · skip
              refine lv_iload_n zx zy dX9_ruleOf_42 rfl (lv_at hl 3 rfl) ?_
              refine lv_istore_n (lv' := [(2, .int (nI i)), (0, .ref h), (1, .int y), (3, .int (nI i))]) zx zy dX9_ruleOf_43 rfl hl (by decide) rfl (fun ls hl => ?_)
              refine lv_iinc (v := nI (i + 1)) (lv' := [(3, .int (nI (i + 1))), (2, .int (nI i)), (0, .ref h), (1, .int y)]) zx zy dX9_ruleOf_44 hl (k := 3) rfl (nI_1 _) (by decide) rfl (fun ls hl => ?_)
              refine lv_goto (tgt := 4) zx zy dX9_ruleOf_47 (by decide) ?_
              exact ih4 (i + 1) (nI i) (by first | assumption | omega) (by subst hb; first | exact (if_pos c19).symm | exact ((if_neg c19).trans (if_pos c24)).symm | exact ((if_neg c19).trans ((if_neg c24).trans (if_pos c39))).symm | exact ((if_neg c19).trans ((if_neg c24).trans (if_neg c39))).symm) _ _ _ (by omega) hH (lv_sub hl [2, 3, 1, 0] rfl)
  exact L4 _ 0 (-1) (by first | assumption | omega) (rfl) _ _ _ (Nat.lt_succ_self _) hH (lv_sub hl [2, 3, 1, 0] rfl)
set_option maxHeartbeats 4000000 in
set_option maxRecDepth 100000 in
theorem k_X9_capOf (l : Launch) (D : va_G) (cI cZ : ClassId) (h : Nat) (zcoins : Nat) (zdebt : Nat) (zfines : Nat) (zreading : Nat) (zruleYear : Nat) (zruleWhat : Nat) (zruleShare : Nat) (zstate : Nat) (zholder : Nat) (zyearOf : Nat) (zusedIn : Nat) (zprojectOf : Nat) (zwent : Nat) (zbidWorks : Nat) (zbidMany : Nat) (zbidPrice : Nat) (zisFalse : Nat) (zcutMany : Nat) (ztonnes : Nat) (zcosts : Nat) (zgiven : Nat) (zcutOff : Nat) (zgot : Nat) (zcutsOf : Nat) (now : Nat) (wk : Nat) (rk : Nat) (k : Nat) (ii : Int32) (bk : Nat) (ac : Int32) (pj : Nat) (sm : Int32) (mg : Int32) (RY : Nat → Int32) (RW : Nat → Int32) (y : Nat) (hk : rk ≤ 30) (hy : y ≤ 20) (hF : ∀ j, j < rk → ∃ v, v < 20 ∧ RY j = nI v) : fx_CI l D cI cZ yX9_capOf wsX9_capOf ({ frames := 1, cells := 0, slots := 0, locals := 23 }) [.ref h, .int (nI y)] [(h, .inr (9, [.int (nI now), .int (nI wk), .ref zcoins, .ref zdebt, .ref zfines, .ref zreading, .int (nI rk), .ref zruleYear, .ref zruleWhat, .ref zruleShare, .int (nI k), .ref zstate, .ref zholder, .ref zyearOf, .ref zusedIn, .ref zprojectOf, .ref zwent, .int ii, .int (nI bk), .ref zbidWorks, .ref zbidMany, .ref zbidPrice, .int ac, .int (nI pj), .ref zisFalse, .ref zcutMany, .ref ztonnes, .ref zcosts, .ref zgiven, .ref zcutOff, .ref zgot, .ref zcutsOf, .int sm, .int mg])), (zruleYear, .inl (cI, 30, .inl RY)), (zruleWhat, .inl (cI, 30, .inl RW))] (fun (u : Unit) => [(h, .inr (9, [.int (nI now), .int (nI wk), .ref zcoins, .ref zdebt, .ref zfines, .ref zreading, .int (nI rk), .ref zruleYear, .ref zruleWhat, .ref zruleShare, .int (nI k), .ref zstate, .ref zholder, .ref zyearOf, .ref zusedIn, .ref zprojectOf, .ref zwent, .int ii, .int (nI bk), .ref zbidWorks, .ref zbidMany, .ref zbidPrice, .int ac, .int (nI pj), .ref zisFalse, .ref zcutMany, .ref ztonnes, .ref zcosts, .ref zgiven, .ref zcutOff, .ref zgot, .ref zcutsOf, .int sm, .int mg])), (zruleYear, .inl (cI, 30, .inl RY)), (zruleWhat, .inl (cI, 30, .inl RW))]) (fun (r : Int32) (u : Unit) => r = capV RY (cW RW) (fW RW) rk y) := by
  refine fx_CI.of (ws' := (wsX9_capOf).tail) cX9_capOf 5 (by decide) rfl (Nat.le_of_ble_eq_true rfl) ?_
  intro zp ze zs zm za zb zt zc zA ls zQ hQ hC hr hlk hA hH hl
  have zx := hC.1.1
  have zy := hC.1.2.1
  have hl : lv_has ls 5 [(0, .ref h), (1, .int (nI y))] := hl
  obtain ⟨v0, hv0, ev0⟩ : ∃ v, v < 20 ∧ rAt 30 RY (inF RY (nI y) rk) = nI v := inF_at (P := fun z => ∃ v, v < 20 ∧ z = nI v) hk ⟨0, by omega, rfl⟩ hF
  refine lv_aload_n zx zy dX9_capOf_0 rfl (lv_at hl 0 rfl) ?_
  refine lv_iload_n zx zy dX9_capOf_1 rfl (lv_at hl 1 rfl) ?_
  refine fx_cVi (n := 1) (As := [.int (nI y)]) (b := h) (rest := []) (fun (u : Unit) => [(h, .inr (9, [.int (nI now), .int (nI wk), .ref zcoins, .ref zdebt, .ref zfines, .ref zreading, .int (nI rk), .ref zruleYear, .ref zruleWhat, .ref zruleShare, .int (nI k), .ref zstate, .ref zholder, .ref zyearOf, .ref zusedIn, .ref zprojectOf, .ref zwent, .int ii, .int (nI bk), .ref zbidWorks, .ref zbidMany, .ref zbidPrice, .int ac, .int (nI pj), .ref zisFalse, .ref zcutMany, .ref ztonnes, .ref zcosts, .ref zgiven, .ref zcutOff, .ref zgot, .ref zcutsOf, .int sm, .int mg])), (zruleYear, .inl (cI, 30, .inl RY)), (zruleWhat, .inl (cI, 30, .inl RW))]) hC hA hH (k_X9_ruleOf l D cI cZ h zcoins zdebt zfines zreading zruleYear zruleWhat zruleShare zstate zholder zyearOf zusedIn zprojectOf zwent zbidWorks zbidMany zbidPrice zisFalse zcutMany ztonnes zcosts zgiven zcutOff zgot zcutsOf now wk rk k ii bk ac pj sm mg RY (nI y) (by first | assumption | omega)) [0, 1] [2] [1, 2, 0] [(zruleWhat, .inl (cI, 30, .inl RW))] rfl rfl (by decide) (by decide) (fun _ => rfl) rfl gX9_capOf_X9_ruleOf (by decide +kernel) ⟨Nat.le_of_ble_eq_true rfl, Nat.le_of_ble_eq_true rfl⟩ 0 rfl rfl rfl rfl rfl hl.1 (Nat.le_of_ble_eq_true rfl) ⟨Nat.le_of_ble_eq_true rfl, Nat.le_of_ble_eq_true rfl⟩ dX9_capOf_2 (fun r1 u H locs hw2 hH => ?_)
  obtain rfl : r1 = inF RY (nI y) rk := hw2
  have hH := (hH : fx_H zA zs.heap H locs D [(h, .inr (9, [.int (nI now), .int (nI wk), .ref zcoins, .ref zdebt, .ref zfines, .ref zreading, .int (nI rk), .ref zruleYear, .ref zruleWhat, .ref zruleShare, .int (nI k), .ref zstate, .ref zholder, .ref zyearOf, .ref zusedIn, .ref zprojectOf, .ref zwent, .int ii, .int (nI bk), .ref zbidWorks, .ref zbidMany, .ref zbidPrice, .int ac, .int (nI pj), .ref zisFalse, .ref zcutMany, .ref ztonnes, .ref zcosts, .ref zgiven, .ref zcutOff, .ref zgot, .ref zcutsOf, .int sm, .int mg])), (zruleYear, .inl (cI, 30, .inl RY)), (zruleWhat, .inl (cI, 30, .inl RW))])
  refine lv_istore_n (lv' := [(2, .int (inF RY (nI y) rk)), (0, .ref h), (1, .int (nI y))]) zx zy dX9_capOf_5 rfl hl (by decide) rfl (fun ls hl => ?_)
  refine lv_iload_n zx zy dX9_capOf_6 rfl (lv_at hl 0 rfl) ?_
  refine lv_iconst (v := (-1)) zx zy dX9_capOf_7 (by decide) ?_
  refine lv_icmp_ne (tgt := 15) zx zy dX9_capOf_8 (by decide) (fun c8 => ?_) (fun c8 => ?_)
  · skip
    have hin := inF_in hk rfl c8
    refine lv_aload_n zx zy dX9_capOf_15 rfl (lv_at hl 1 rfl) ?_
    refine fx_get (C := RX9) (T := TX9) (N := 34) hC (fun _ h => List.mem_cons_of_mem _ (List.mem_append_right _ h)) hH 0 rfl rfl 8 (by decide) (by decide +kernel) rfl dX9_capOf_16 ?_
    refine lv_iload_n zx zy dX9_capOf_19 rfl (lv_at hl 0 rfl) ?_
    refine fx_ild hC hH 2 rfl hin dX9_capOf_20 ?_
    refine lv_sipush (v := 1000) zx zy dX9_capOf_21 (by decide) ?_
    refine lv_idiv zx zy dX9_capOf_24 (by decide) ?_
    refine lv_topi (fun v2 ev2 => ?_)
    obtain rfl : v2 = rAt 30 (cW RW) (inF RY (nI y) rk) := ev2.trans ((rAt_c (f := cW RW) hin).symm)
    refine lv_istore_n (lv' := [(3, .int (rAt 30 (cW RW) (inF RY (nI y) rk))), (2, .int (inF RY (nI y) rk)), (0, .ref h), (1, .int (nI y))]) zx zy dX9_capOf_25 rfl hl (by decide) rfl (fun ls hl => ?_)
    refine lv_iload_n zx zy dX9_capOf_26 rfl (lv_at hl 1 rfl) ?_
    refine lv_iconst (v := (-1)) zx zy dX9_capOf_27 (by decide) ?_
    refine lv_icmp_ne (tgt := 35) zx zy dX9_capOf_28 (by decide) (fun c28 => ?_) (fun c28 => ?_)
    · skip
      refine lv_aload_n zx zy dX9_capOf_35 rfl (lv_at hl 2 rfl) ?_
      refine fx_get (C := RX9) (T := TX9) (N := 34) hC (fun _ h => List.mem_cons_of_mem _ (List.mem_append_right _ h)) hH 0 rfl rfl 7 (by decide) (by decide +kernel) rfl dX9_capOf_36 ?_
      refine lv_iload_n zx zy dX9_capOf_39 rfl (lv_at hl 1 rfl) ?_
      refine fx_ild hC hH 1 rfl hin dX9_capOf_40 ?_
      refine lv_topi (fun v3 ev3 => ?_)
      obtain rfl : v3 = nI v0 := ev3.trans ((rAt_c hin).symm.trans ev0)
      refine lv_istore (lv' := [(4, .int (nI v0)), (3, .int (rAt 30 (cW RW) (inF RY (nI y) rk))), (2, .int (inF RY (nI y) rk)), (0, .ref h), (1, .int (nI y))]) zx zy dX9_capOf_41 hl (by decide) rfl (fun ls hl => ?_)
      have L43 : ∀ (fu : Nat) (v : Nat) (c : Int32) (hv : v < 21) (hc : capGo (rAt 30 (fW RW) (inF RY (nI y) rk)) (y - v) c = capV RY (cW RW) (fW RW) rk y) (hj : v < y → vp_in (inF RY (nI y) rk) 30) (H : Heap) (locs : List Loc) (ls : Array Slot), y - v < fu → fx_H zA zs.heap H locs D [(h, .inr (9, [.int (nI now), .int (nI wk), .ref zcoins, .ref zdebt, .ref zfines, .ref zreading, .int (nI rk), .ref zruleYear, .ref zruleWhat, .ref zruleShare, .int (nI k), .ref zstate, .ref zholder, .ref zyearOf, .ref zusedIn, .ref zprojectOf, .ref zwent, .int ii, .int (nI bk), .ref zbidWorks, .ref zbidMany, .ref zbidPrice, .int ac, .int (nI pj), .ref zisFalse, .ref zcutMany, .ref ztonnes, .ref zcosts, .ref zgiven, .ref zcutOff, .ref zgot, .ref zcutsOf, .int sm, .int mg])), (zruleYear, .inl (cI, 30, .inl RY)), (zruleWhat, .inl (cI, 30, .inl RW))] → lv_has ls 5 [(0, .ref h), (1, .int (nI y)), (2, .int (inF RY (nI y) rk)), (3, .int c), (4, .int (nI v))] → W zp l ze ({ frames := 1, cells := 0, slots := 0, locals := 23 }) zs zm za zb zt zc H locs (0) (0) zQ (F0 zm 43 ls []) := by
        intro fu
        induction fu with
        | zero => intro v c hv hc hj H locs ls hfu; exact absurd hfu (Nat.not_lt_zero _)
        | succ fu ih43 =>
          intro v c hv hc hj H locs ls hfu43 hH hl
          refine lv_iload zx zy dX9_capOf_43 (lv_at hl 4 rfl) ?_
          refine lv_iload_n zx zy dX9_capOf_45 rfl (lv_at hl 1 rfl) ?_
          refine lv_icmp_ge (tgt := 73) zx zy dX9_capOf_46 (by decide) (fun c46 => ?_) (fun c46 => ?_)
          · skip
            refine lv_iload_n zx zy dX9_capOf_73 rfl (lv_at hl 3 rfl) ?_
            exact fx_iret (v := c) hQ hC hr hlk hH dX9_capOf_74 rfl (Nat.le_of_ble_eq_true rfl) (Nat.le_of_ble_eq_true rfl) (()) rfl (by rw [← hc, show y - v = 0 from Nat.sub_eq_zero_of_le (fx_le_of c46 (by omega) (by omega))]; rfl)
          · skip
            have hlt : v < y := fx_lt_of c46 (by omega)
            have hin := hj hlt
            refine lv_iload_n zx zy dX9_capOf_49 rfl (lv_at hl 3 rfl) ?_
            refine lv_iload_n zx zy dX9_capOf_50 rfl (lv_at hl 3 rfl) ?_
            refine lv_aload_n zx zy dX9_capOf_51 rfl (lv_at hl 0 rfl) ?_
            refine fx_get (C := RX9) (T := TX9) (N := 34) hC (fun _ h => List.mem_cons_of_mem _ (List.mem_append_right _ h)) hH 0 rfl rfl 8 (by decide) (by decide +kernel) rfl dX9_capOf_52 ?_
            refine lv_iload_n zx zy dX9_capOf_55 rfl (lv_at hl 2 rfl) ?_
            refine fx_ild hC hH 2 rfl hin dX9_capOf_56 ?_
            refine lv_sipush (v := 1000) zx zy dX9_capOf_57 (by decide) ?_
            refine lv_irem zx zy dX9_capOf_60 (by decide) ?_
            refine lv_topi (fun v4 ev4 => ?_)
            obtain rfl : v4 = rAt 30 (fW RW) (inF RY (nI y) rk) := ev4.trans ((rAt_c (f := fW RW) hin).symm)
            refine lv_imul zx zy dX9_capOf_61 ?_
            refine lv_bipush (v := 100) zx zy dX9_capOf_62 (by decide) ?_
            refine lv_idiv zx zy dX9_capOf_64 (by decide) ?_
            refine lv_isub zx zy dX9_capOf_65 ?_
            refine lv_istore_n (lv' := [(3, .int (c - ((c * (rAt 30 (fW RW) (inF RY (nI y) rk))) / 100))), (0, .ref h), (1, .int (nI y)), (2, .int (inF RY (nI y) rk)), (4, .int (nI v))]) zx zy dX9_capOf_66 rfl hl (by decide) rfl (fun ls hl => ?_)
            refine lv_iinc (v := nI (v + 1)) (lv' := [(4, .int (nI (v + 1))), (3, .int (c - ((c * (rAt 30 (fW RW) (inF RY (nI y) rk))) / 100))), (0, .ref h), (1, .int (nI y)), (2, .int (inF RY (nI y) rk))]) zx zy dX9_capOf_67 hl (k := 4) rfl (nI_1 _) (by decide) rfl (fun ls hl => ?_)
            refine lv_goto (tgt := 43) zx zy dX9_capOf_70 (by decide) ?_
            exact ih43 (v + 1) (c - ((c * (rAt 30 (fW RW) (inF RY (nI y) rk))) / 100)) (by first | assumption | omega) (by rw [← hc]; exact (capGo_s hlt).symm) (fun _ => hin) _ _ _ (by omega) hH (lv_sub hl [2, 3, 4, 1, 0] rfl)
      exact L43 _ v0 (rAt 30 (cW RW) (inF RY (nI y) rk)) (by first | assumption | omega) (by first | (unfold capV; rw [ev0, nI_clamp (by omega)]; done) | (unfold capV; rw [c8]; simp only [rAt_m1, capGo_0])) (by first | exact (fun _ => hin) | exact (fun h => absurd h (by omega))) _ _ _ (Nat.lt_succ_self _) hH (lv_sub hl [3, 4, 2, 1, 0] rfl)
    · skip
      exact absurd c28 c8
  · skip
    refine lv_iconst (v := 0) zx zy dX9_capOf_11 (by decide) ?_
    refine lv_goto (tgt := 25) zx zy dX9_capOf_12 (by decide) ?_
    refine lv_istore_n (lv' := [(3, .int 0), (2, .int (inF RY (nI y) rk)), (0, .ref h), (1, .int (nI y))]) zx zy dX9_capOf_25 rfl hl (by decide) rfl (fun ls hl => ?_)
    refine lv_iload_n zx zy dX9_capOf_26 rfl (lv_at hl 1 rfl) ?_
    refine lv_iconst (v := (-1)) zx zy dX9_capOf_27 (by decide) ?_
    refine lv_icmp_ne (tgt := 35) zx zy dX9_capOf_28 (by decide) (fun c28 => ?_) (fun c28 => ?_)
    · skip
      exact absurd c8 c28
    · skip
      refine lv_iload_n zx zy dX9_capOf_31 rfl (lv_at hl 3 rfl) ?_
      refine lv_goto (tgt := 41) zx zy dX9_capOf_32 (by decide) ?_
      refine lv_istore (lv' := [(4, .int (nI y)), (3, .int 0), (2, .int (inF RY (nI y) rk)), (0, .ref h), (1, .int (nI y))]) zx zy dX9_capOf_41 hl (by decide) rfl (fun ls hl => ?_)
      have L43 : ∀ (fu : Nat) (v : Nat) (c : Int32) (hv : v < 21) (hc : capGo (rAt 30 (fW RW) (inF RY (nI y) rk)) (y - v) c = capV RY (cW RW) (fW RW) rk y) (hj : v < y → vp_in (inF RY (nI y) rk) 30) (H : Heap) (locs : List Loc) (ls : Array Slot), y - v < fu → fx_H zA zs.heap H locs D [(h, .inr (9, [.int (nI now), .int (nI wk), .ref zcoins, .ref zdebt, .ref zfines, .ref zreading, .int (nI rk), .ref zruleYear, .ref zruleWhat, .ref zruleShare, .int (nI k), .ref zstate, .ref zholder, .ref zyearOf, .ref zusedIn, .ref zprojectOf, .ref zwent, .int ii, .int (nI bk), .ref zbidWorks, .ref zbidMany, .ref zbidPrice, .int ac, .int (nI pj), .ref zisFalse, .ref zcutMany, .ref ztonnes, .ref zcosts, .ref zgiven, .ref zcutOff, .ref zgot, .ref zcutsOf, .int sm, .int mg])), (zruleYear, .inl (cI, 30, .inl RY)), (zruleWhat, .inl (cI, 30, .inl RW))] → lv_has ls 5 [(0, .ref h), (1, .int (nI y)), (2, .int (inF RY (nI y) rk)), (3, .int c), (4, .int (nI v))] → W zp l ze ({ frames := 1, cells := 0, slots := 0, locals := 23 }) zs zm za zb zt zc H locs (0) (0) zQ (F0 zm 43 ls []) := by
        intro fu
        induction fu with
        | zero => intro v c hv hc hj H locs ls hfu; exact absurd hfu (Nat.not_lt_zero _)
        | succ fu ih43 =>
          intro v c hv hc hj H locs ls hfu43 hH hl
          refine lv_iload zx zy dX9_capOf_43 (lv_at hl 4 rfl) ?_
          refine lv_iload_n zx zy dX9_capOf_45 rfl (lv_at hl 1 rfl) ?_
          refine lv_icmp_ge (tgt := 73) zx zy dX9_capOf_46 (by decide) (fun c46 => ?_) (fun c46 => ?_)
          · skip
            refine lv_iload_n zx zy dX9_capOf_73 rfl (lv_at hl 3 rfl) ?_
            exact fx_iret (v := c) hQ hC hr hlk hH dX9_capOf_74 rfl (Nat.le_of_ble_eq_true rfl) (Nat.le_of_ble_eq_true rfl) (()) rfl (by rw [← hc, show y - v = 0 from Nat.sub_eq_zero_of_le (fx_le_of c46 (by omega) (by omega))]; rfl)
          · skip
            have hlt : v < y := fx_lt_of c46 (by omega)
            have hin := hj hlt
            refine lv_iload_n zx zy dX9_capOf_49 rfl (lv_at hl 3 rfl) ?_
            refine lv_iload_n zx zy dX9_capOf_50 rfl (lv_at hl 3 rfl) ?_
            refine lv_aload_n zx zy dX9_capOf_51 rfl (lv_at hl 0 rfl) ?_
            refine fx_get (C := RX9) (T := TX9) (N := 34) hC (fun _ h => List.mem_cons_of_mem _ (List.mem_append_right _ h)) hH 0 rfl rfl 8 (by decide) (by decide +kernel) rfl dX9_capOf_52 ?_
            refine lv_iload_n zx zy dX9_capOf_55 rfl (lv_at hl 2 rfl) ?_
            refine fx_ild hC hH 2 rfl hin dX9_capOf_56 ?_
            refine lv_sipush (v := 1000) zx zy dX9_capOf_57 (by decide) ?_
            refine lv_irem zx zy dX9_capOf_60 (by decide) ?_
            refine lv_topi (fun v5 ev5 => ?_)
            obtain rfl : v5 = rAt 30 (fW RW) (inF RY (nI y) rk) := ev5.trans ((rAt_c (f := fW RW) hin).symm)
            refine lv_imul zx zy dX9_capOf_61 ?_
            refine lv_bipush (v := 100) zx zy dX9_capOf_62 (by decide) ?_
            refine lv_idiv zx zy dX9_capOf_64 (by decide) ?_
            refine lv_isub zx zy dX9_capOf_65 ?_
            refine lv_istore_n (lv' := [(3, .int (c - ((c * (rAt 30 (fW RW) (inF RY (nI y) rk))) / 100))), (0, .ref h), (1, .int (nI y)), (2, .int (inF RY (nI y) rk)), (4, .int (nI v))]) zx zy dX9_capOf_66 rfl hl (by decide) rfl (fun ls hl => ?_)
            refine lv_iinc (v := nI (v + 1)) (lv' := [(4, .int (nI (v + 1))), (3, .int (c - ((c * (rAt 30 (fW RW) (inF RY (nI y) rk))) / 100))), (0, .ref h), (1, .int (nI y)), (2, .int (inF RY (nI y) rk))]) zx zy dX9_capOf_67 hl (k := 4) rfl (nI_1 _) (by decide) rfl (fun ls hl => ?_)
            refine lv_goto (tgt := 43) zx zy dX9_capOf_70 (by decide) ?_
            exact ih43 (v + 1) (c - ((c * (rAt 30 (fW RW) (inF RY (nI y) rk))) / 100)) (by first | assumption | omega) (by rw [← hc]; exact (capGo_s hlt).symm) (fun _ => hin) _ _ _ (by omega) hH (lv_sub hl [2, 3, 4, 1, 0] rfl)
      exact L43 _ y 0 (by first | assumption | omega) (by first | (unfold capV; rw [ev0, nI_clamp (by omega)]; done) | (unfold capV; rw [c8]; simp only [rAt_m1, capGo_0])) (by first | exact (fun _ => hin) | exact (fun h => absurd h (by omega))) _ _ _ (Nat.lt_succ_self _) hH (lv_sub hl [3, 4, 2, 1, 0] rfl)
set_option maxHeartbeats 4000000 in
set_option maxRecDepth 100000 in
theorem k_X9_partOf (l : Launch) (D : va_G) (cI cZ : ClassId) (h : Nat) (zcoins : Nat) (zdebt : Nat) (zfines : Nat) (zreading : Nat) (zruleYear : Nat) (zruleWhat : Nat) (zruleShare : Nat) (zstate : Nat) (zholder : Nat) (zyearOf : Nat) (zusedIn : Nat) (zprojectOf : Nat) (zwent : Nat) (zbidWorks : Nat) (zbidMany : Nat) (zbidPrice : Nat) (zisFalse : Nat) (zcutMany : Nat) (ztonnes : Nat) (zcosts : Nat) (zgiven : Nat) (zcutOff : Nat) (zgot : Nat) (zcutsOf : Nat) (now : Nat) (wk : Nat) (rk : Nat) (k : Nat) (ii : Int32) (bk : Nat) (ac : Int32) (pj : Nat) (sm : Int32) (mg : Int32) (RY : Nat → Int32) (RS : Nat → Int32) (y : Int32) (a : Int32) (d : Int32) (hk : rk ≤ 30) (hza : ¬ a = 0) (hzd : ¬ d = 0) : fx_CI l D cI cZ yX9_partOf wsX9_partOf ({ frames := 1, cells := 0, slots := 0, locals := 23 }) [.ref h, .int y, .int a, .int d] [(h, .inr (9, [.int (nI now), .int (nI wk), .ref zcoins, .ref zdebt, .ref zfines, .ref zreading, .int (nI rk), .ref zruleYear, .ref zruleWhat, .ref zruleShare, .int (nI k), .ref zstate, .ref zholder, .ref zyearOf, .ref zusedIn, .ref zprojectOf, .ref zwent, .int ii, .int (nI bk), .ref zbidWorks, .ref zbidMany, .ref zbidPrice, .int ac, .int (nI pj), .ref zisFalse, .ref zcutMany, .ref ztonnes, .ref zcosts, .ref zgiven, .ref zcutOff, .ref zgot, .ref zcutsOf, .int sm, .int mg])), (zruleYear, .inl (cI, 30, .inl RY)), (zruleShare, .inl (cI, 30, .inl RS))] (fun (u : Unit) => [(h, .inr (9, [.int (nI now), .int (nI wk), .ref zcoins, .ref zdebt, .ref zfines, .ref zreading, .int (nI rk), .ref zruleYear, .ref zruleWhat, .ref zruleShare, .int (nI k), .ref zstate, .ref zholder, .ref zyearOf, .ref zusedIn, .ref zprojectOf, .ref zwent, .int ii, .int (nI bk), .ref zbidWorks, .ref zbidMany, .ref zbidPrice, .int ac, .int (nI pj), .ref zisFalse, .ref zcutMany, .ref ztonnes, .ref zcosts, .ref zgiven, .ref zcutOff, .ref zgot, .ref zcutsOf, .int sm, .int mg])), (zruleYear, .inl (cI, 30, .inl RY)), (zruleShare, .inl (cI, 30, .inl RS))]) (fun (r : Int32) (u : Unit) => r = rAt 30 (pS RS a d) (inF RY y rk)) := by
  refine fx_CI.of (ws' := (wsX9_partOf).tail) cX9_partOf 5 (by decide) rfl (Nat.le_of_ble_eq_true rfl) ?_
  intro zp ze zs zm za zb zt zc zA ls zQ hQ hC hr hlk hA hH hl
  have zx := hC.1.1
  have zy := hC.1.2.1
  have hl : lv_has ls 5 [(0, .ref h), (1, .int y), (2, .int a), (3, .int d)] := hl
  refine lv_aload_n zx zy dX9_partOf_0 rfl (lv_at hl 0 rfl) ?_
  refine lv_iload_n zx zy dX9_partOf_1 rfl (lv_at hl 1 rfl) ?_
  refine fx_cVi (n := 1) (As := [.int y]) (b := h) (rest := []) (fun (u : Unit) => [(h, .inr (9, [.int (nI now), .int (nI wk), .ref zcoins, .ref zdebt, .ref zfines, .ref zreading, .int (nI rk), .ref zruleYear, .ref zruleWhat, .ref zruleShare, .int (nI k), .ref zstate, .ref zholder, .ref zyearOf, .ref zusedIn, .ref zprojectOf, .ref zwent, .int ii, .int (nI bk), .ref zbidWorks, .ref zbidMany, .ref zbidPrice, .int ac, .int (nI pj), .ref zisFalse, .ref zcutMany, .ref ztonnes, .ref zcosts, .ref zgiven, .ref zcutOff, .ref zgot, .ref zcutsOf, .int sm, .int mg])), (zruleYear, .inl (cI, 30, .inl RY)), (zruleShare, .inl (cI, 30, .inl RS))]) hC hA hH (k_X9_ruleOf l D cI cZ h zcoins zdebt zfines zreading zruleYear zruleWhat zruleShare zstate zholder zyearOf zusedIn zprojectOf zwent zbidWorks zbidMany zbidPrice zisFalse zcutMany ztonnes zcosts zgiven zcutOff zgot zcutsOf now wk rk k ii bk ac pj sm mg RY y (by first | assumption | omega)) [0, 1] [2] [1, 2, 0] [(zruleShare, .inl (cI, 30, .inl RS))] rfl rfl (by decide) (by decide) (fun _ => rfl) rfl gX9_partOf_X9_ruleOf (by decide +kernel) ⟨Nat.le_of_ble_eq_true rfl, Nat.le_of_ble_eq_true rfl⟩ 0 rfl rfl rfl rfl rfl hl.1 (Nat.le_of_ble_eq_true rfl) ⟨Nat.le_of_ble_eq_true rfl, Nat.le_of_ble_eq_true rfl⟩ dX9_partOf_2 (fun r1 u H locs hw2 hH => ?_)
  obtain rfl : r1 = inF RY y rk := hw2
  have hH := (hH : fx_H zA zs.heap H locs D [(h, .inr (9, [.int (nI now), .int (nI wk), .ref zcoins, .ref zdebt, .ref zfines, .ref zreading, .int (nI rk), .ref zruleYear, .ref zruleWhat, .ref zruleShare, .int (nI k), .ref zstate, .ref zholder, .ref zyearOf, .ref zusedIn, .ref zprojectOf, .ref zwent, .int ii, .int (nI bk), .ref zbidWorks, .ref zbidMany, .ref zbidPrice, .int ac, .int (nI pj), .ref zisFalse, .ref zcutMany, .ref ztonnes, .ref zcosts, .ref zgiven, .ref zcutOff, .ref zgot, .ref zcutsOf, .int sm, .int mg])), (zruleYear, .inl (cI, 30, .inl RY)), (zruleShare, .inl (cI, 30, .inl RS))])
  refine lv_istore (lv' := [(4, .int (inF RY y rk)), (0, .ref h), (1, .int y), (2, .int a), (3, .int d)]) zx zy dX9_partOf_5 hl (by decide) rfl (fun ls hl => ?_)
  refine lv_iload zx zy dX9_partOf_7 (lv_at hl 0 rfl) ?_
  refine lv_iconst (v := (-1)) zx zy dX9_partOf_9 (by decide) ?_
  refine lv_icmp_ne (tgt := 17) zx zy dX9_partOf_10 (by decide) (fun c10 => ?_) (fun c10 => ?_)
  · skip
    have hin := inF_in hk rfl c10
    refine lv_aload_n zx zy dX9_partOf_17 rfl (lv_at hl 1 rfl) ?_
    refine fx_get (C := RX9) (T := TX9) (N := 34) hC (fun _ h => List.mem_cons_of_mem _ (List.mem_append_right _ h)) hH 0 rfl rfl 9 (by decide) (by decide +kernel) rfl dX9_partOf_18 ?_
    refine lv_iload zx zy dX9_partOf_21 (lv_at hl 0 rfl) ?_
    refine fx_ild hC hH 2 rfl hin dX9_partOf_23 ?_
    refine lv_iload_n zx zy dX9_partOf_24 rfl (lv_at hl 3 rfl) ?_
    refine lv_idiv zx zy dX9_partOf_25 hza ?_
    refine lv_iload_n zx zy dX9_partOf_26 rfl (lv_at hl 4 rfl) ?_
    refine lv_irem zx zy dX9_partOf_27 hzd ?_
    refine lv_topi (fun v2 ev2 => ?_)
    obtain rfl : v2 = rAt 30 (pS RS a d) (inF RY y rk) := ev2.trans ((rAt_c (f := pS RS a d) hin).symm)
    exact fx_iret (v := rAt 30 (pS RS a d) (inF RY y rk)) hQ hC hr hlk hH dX9_partOf_28 rfl (Nat.le_of_ble_eq_true rfl) (Nat.le_of_ble_eq_true rfl) (()) rfl (by first | rfl | exact (by rw [c10]; exact rAt_m1.symm))
  · skip
    refine lv_iconst (v := 0) zx zy dX9_partOf_13 (by decide) ?_
    refine lv_goto (tgt := 28) zx zy dX9_partOf_14 (by decide) ?_
    exact fx_iret (v := 0) hQ hC hr hlk hH dX9_partOf_28 rfl (Nat.le_of_ble_eq_true rfl) (Nat.le_of_ble_eq_true rfl) (()) rfl (by first | rfl | exact (by rw [c10]; exact rAt_m1.symm))
set_option maxHeartbeats 4000000 in
set_option maxRecDepth 100000 in
theorem k_X9_ruled (l : Launch) (D : va_G) (cI cZ : ClassId) (h : Nat) (zcoins : Nat) (zdebt : Nat) (zfines : Nat) (zreading : Nat) (zruleYear : Nat) (zruleWhat : Nat) (zruleShare : Nat) (zstate : Nat) (zholder : Nat) (zyearOf : Nat) (zusedIn : Nat) (zprojectOf : Nat) (zwent : Nat) (zbidWorks : Nat) (zbidMany : Nat) (zbidPrice : Nat) (zisFalse : Nat) (zcutMany : Nat) (ztonnes : Nat) (zcosts : Nat) (zgiven : Nat) (zcutOff : Nat) (zgot : Nat) (zcutsOf : Nat) (now : Nat) (wk : Nat) (rk : Nat) (k : Nat) (ii : Int32) (bk : Nat) (ac : Int32) (pj : Nat) (sm : Int32) (mg : Int32) (RY : Nat → Int32) (RW : Nat → Int32) (RS : Nat → Int32) (x : Int32) (t : Int32) (hk : rk ≤ 30) (hF : ∀ j, j < rk → ∃ v, v < 20 ∧ RY j = nI v) : fx_CI l D cI cZ yX9_ruled wsX9_ruled ({ frames := 2, cells := 0, slots := 0, locals := 47 }) [.ref h, .int x, .int t] [(h, .inr (9, [.int (nI now), .int (nI wk), .ref zcoins, .ref zdebt, .ref zfines, .ref zreading, .int (nI rk), .ref zruleYear, .ref zruleWhat, .ref zruleShare, .int (nI k), .ref zstate, .ref zholder, .ref zyearOf, .ref zusedIn, .ref zprojectOf, .ref zwent, .int ii, .int (nI bk), .ref zbidWorks, .ref zbidMany, .ref zbidPrice, .int ac, .int (nI pj), .ref zisFalse, .ref zcutMany, .ref ztonnes, .ref zcosts, .ref zgiven, .ref zcutOff, .ref zgot, .ref zcutsOf, .int sm, .int mg])), (zruleYear, .inl (cI, 30, .inl RY)), (zruleWhat, .inl (cI, 30, .inl RW)), (zruleShare, .inl (cI, 30, .inl RS))] (fun (u : Unit) => [(h, .inr (9, [.int (nI now), .int (nI wk), .ref zcoins, .ref zdebt, .ref zfines, .ref zreading, .int (nI rk), .ref zruleYear, .ref zruleWhat, .ref zruleShare, .int (nI k), .ref zstate, .ref zholder, .ref zyearOf, .ref zusedIn, .ref zprojectOf, .ref zwent, .int ii, .int (nI bk), .ref zbidWorks, .ref zbidMany, .ref zbidPrice, .int ac, .int (nI pj), .ref zisFalse, .ref zcutMany, .ref ztonnes, .ref zcosts, .ref zgiven, .ref zcutOff, .ref zgot, .ref zcutsOf, .int sm, .int mg])), (zruleYear, .inl (cI, 30, .inl RY)), (zruleWhat, .inl (cI, 30, .inl RW)), (zruleShare, .inl (cI, 30, .inl RS))]) (fun (r : Int32) (u : Unit) => (∃ j, j < 20 ∧ x = nI j ∧ r = rdV RY (cW RW) (fW RW) (pS RS 100000 1000) (pS RS 100 1000) (pS RS 1 100) rk j t) ∨ ((¬ ∃ j, j < 20 ∧ x = nI j) ∧ r = -1)) := by
  refine fx_CI.of (ws' := (wsX9_ruled).tail) cX9_ruled 3 (by decide) rfl (Nat.le_of_ble_eq_true rfl) ?_
  intro zp ze zs zm za zb zt zc zA ls zQ hQ hC hr hlk hA hH hl
  have zx := hC.1.1
  have zy := hC.1.2.1
  have hl : lv_has ls 3 [(0, .ref h), (1, .int x), (2, .int t)] := hl
  refine lv_iload_n zx zy dX9_ruled_0 rfl (lv_at hl 1 rfl) ?_
  refine lv_iconst (v := 0) zx zy dX9_ruled_1 (by decide) ?_
  refine lv_bipush (v := 19) zx zy dX9_ruled_2 (by decide) ?_
  refine fx_cSi (n := 3) (As := [.int x, .int 0, .int 19]) (rest := []) hC hA hH (k_X9_in l D cI cZ x 0 19) ⟨rfl, rfl⟩ rfl gX9_ruled_X9_in (by decide +kernel) ⟨Nat.le_of_ble_eq_true rfl, Nat.le_of_ble_eq_true rfl⟩ rfl rfl hl.1 (Nat.le_of_ble_eq_true rfl) ⟨(Nat.le_of_ble_eq_true rfl), (Nat.le_of_ble_eq_true rfl)⟩ dX9_ruled_4 (fun r1 H locs hw4 hH => ?_)
  rcases hw4 with ⟨hg4, rfl⟩ | ⟨hg4, rfl⟩
  · skip
    have hH := (hH : fx_H zA zs.heap H locs D [(h, .inr (9, [.int (nI now), .int (nI wk), .ref zcoins, .ref zdebt, .ref zfines, .ref zreading, .int (nI rk), .ref zruleYear, .ref zruleWhat, .ref zruleShare, .int (nI k), .ref zstate, .ref zholder, .ref zyearOf, .ref zusedIn, .ref zprojectOf, .ref zwent, .int ii, .int (nI bk), .ref zbidWorks, .ref zbidMany, .ref zbidPrice, .int ac, .int (nI pj), .ref zisFalse, .ref zcutMany, .ref ztonnes, .ref zcosts, .ref zgiven, .ref zcutOff, .ref zgot, .ref zcutsOf, .int sm, .int mg])), (zruleYear, .inl (cI, 30, .inl RY)), (zruleWhat, .inl (cI, 30, .inl RW)), (zruleShare, .inl (cI, 30, .inl RS))])
    obtain ⟨j1, hj1, rfl⟩ := w_in (N := 19) (by omega) hg4.1 hg4.2
    have hl := (hl : lv_has ls 3 [(0, .ref h), (1, .int (nI j1)), (2, .int t)])
    refine lv_if_ne (tgt := 12) zx zy dX9_ruled_7 (by decide) (fun c7 => ?_) (fun c7 => ?_)
    · skip
      refine lv_iload_n zx zy dX9_ruled_12 rfl (lv_at hl 2 rfl) ?_
      by_cases t13_0 : t = 0
      · refine lv_tableIn (off := 31) (tgt := 44) zx zy dX9_ruled_13 (by rw [t13_0]; decide) (by rw [t13_0]; decide) (by rw [t13_0]; rfl) (by decide) ?_
        refine lv_aload_n zx zy dX9_ruled_44 rfl (lv_at hl 0 rfl) ?_
        refine lv_iload_n zx zy dX9_ruled_45 rfl (lv_at hl 1 rfl) ?_
        refine fx_cVi (n := 1) (As := [.int (nI j1)]) (b := h) (rest := []) (fun (u : Unit) => [(h, .inr (9, [.int (nI now), .int (nI wk), .ref zcoins, .ref zdebt, .ref zfines, .ref zreading, .int (nI rk), .ref zruleYear, .ref zruleWhat, .ref zruleShare, .int (nI k), .ref zstate, .ref zholder, .ref zyearOf, .ref zusedIn, .ref zprojectOf, .ref zwent, .int ii, .int (nI bk), .ref zbidWorks, .ref zbidMany, .ref zbidPrice, .int ac, .int (nI pj), .ref zisFalse, .ref zcutMany, .ref ztonnes, .ref zcosts, .ref zgiven, .ref zcutOff, .ref zgot, .ref zcutsOf, .int sm, .int mg])), (zruleYear, .inl (cI, 30, .inl RY)), (zruleWhat, .inl (cI, 30, .inl RW)), (zruleShare, .inl (cI, 30, .inl RS))]) hC hA hH (k_X9_capOf l D cI cZ h zcoins zdebt zfines zreading zruleYear zruleWhat zruleShare zstate zholder zyearOf zusedIn zprojectOf zwent zbidWorks zbidMany zbidPrice zisFalse zcutMany ztonnes zcosts zgiven zcutOff zgot zcutsOf now wk rk k ii bk ac pj sm mg RY RW j1 (by first | assumption | omega) (by first | assumption | omega) (by first | assumption | omega)) [0, 1, 2] [3] [1, 2, 3, 0] [(zruleShare, .inl (cI, 30, .inl RS))] rfl rfl (by decide) (by decide) (fun _ => rfl) rfl gX9_ruled_X9_capOf (by decide +kernel) ⟨Nat.le_of_ble_eq_true rfl, Nat.le_of_ble_eq_true rfl⟩ 0 rfl rfl rfl rfl rfl hl.1 (Nat.le_of_ble_eq_true rfl) ⟨Nat.le_of_ble_eq_true rfl, Nat.le_of_ble_eq_true rfl⟩ dX9_ruled_46 (fun r2 u H locs hw46 hH => ?_)
        obtain rfl : r2 = capV RY (cW RW) (fW RW) rk j1 := hw46
        have hH := (hH : fx_H zA zs.heap H locs D [(h, .inr (9, [.int (nI now), .int (nI wk), .ref zcoins, .ref zdebt, .ref zfines, .ref zreading, .int (nI rk), .ref zruleYear, .ref zruleWhat, .ref zruleShare, .int (nI k), .ref zstate, .ref zholder, .ref zyearOf, .ref zusedIn, .ref zprojectOf, .ref zwent, .int ii, .int (nI bk), .ref zbidWorks, .ref zbidMany, .ref zbidPrice, .int ac, .int (nI pj), .ref zisFalse, .ref zcutMany, .ref ztonnes, .ref zcosts, .ref zgiven, .ref zcutOff, .ref zgot, .ref zcutsOf, .int sm, .int mg])), (zruleYear, .inl (cI, 30, .inl RY)), (zruleWhat, .inl (cI, 30, .inl RW)), (zruleShare, .inl (cI, 30, .inl RS))])
        exact fx_iret (v := capV RY (cW RW) (fW RW) rk j1) hQ hC hr hlk hH dX9_ruled_49 rfl (Nat.le_of_ble_eq_true rfl) (Nat.le_of_ble_eq_true rfl) (()) rfl (Or.inl ⟨j1, hj1, rfl, by rw [t13_0]; rfl⟩)
      by_cases t13_1 : t = 1
      · refine lv_tableIn (off := 37) (tgt := 50) zx zy dX9_ruled_13 (by rw [t13_1]; decide) (by rw [t13_1]; decide) (by rw [t13_1]; rfl) (by decide) ?_
        refine lv_aload_n zx zy dX9_ruled_50 rfl (lv_at hl 0 rfl) ?_
        refine lv_iload_n zx zy dX9_ruled_51 rfl (lv_at hl 1 rfl) ?_
        refine lv_ldc (own := RX9) (v := 100000) zx zy hC.1.2.2.2.1 (hC.1.2.2.2.2 _ (by decide +kernel)) dX9_ruled_52 ?_
        refine lv_sipush (v := 1000) zx zy dX9_ruled_54 (by decide) ?_
        refine fx_cVi (n := 3) (As := [.int (nI j1), .int 100000, .int 1000]) (b := h) (rest := []) (fun (u : Unit) => [(h, .inr (9, [.int (nI now), .int (nI wk), .ref zcoins, .ref zdebt, .ref zfines, .ref zreading, .int (nI rk), .ref zruleYear, .ref zruleWhat, .ref zruleShare, .int (nI k), .ref zstate, .ref zholder, .ref zyearOf, .ref zusedIn, .ref zprojectOf, .ref zwent, .int ii, .int (nI bk), .ref zbidWorks, .ref zbidMany, .ref zbidPrice, .int ac, .int (nI pj), .ref zisFalse, .ref zcutMany, .ref ztonnes, .ref zcosts, .ref zgiven, .ref zcutOff, .ref zgot, .ref zcutsOf, .int sm, .int mg])), (zruleYear, .inl (cI, 30, .inl RY)), (zruleWhat, .inl (cI, 30, .inl RW)), (zruleShare, .inl (cI, 30, .inl RS))]) hC hA hH (k_X9_partOf l D cI cZ h zcoins zdebt zfines zreading zruleYear zruleWhat zruleShare zstate zholder zyearOf zusedIn zprojectOf zwent zbidWorks zbidMany zbidPrice zisFalse zcutMany ztonnes zcosts zgiven zcutOff zgot zcutsOf now wk rk k ii bk ac pj sm mg RY RS (nI j1) 100000 1000 (by first | assumption | omega) (by decide) (by decide)) [0, 1, 3] [2] [1, 2, 0, 3] [(zruleWhat, .inl (cI, 30, .inl RW))] rfl rfl (by decide) (by decide) (fun _ => rfl) rfl gX9_ruled_X9_partOf (by decide +kernel) ⟨Nat.le_of_ble_eq_true rfl, Nat.le_of_ble_eq_true rfl⟩ 0 rfl rfl rfl rfl rfl hl.1 (Nat.le_of_ble_eq_true rfl) ⟨Nat.le_of_ble_eq_true rfl, Nat.le_of_ble_eq_true rfl⟩ dX9_ruled_57 (fun r3 u H locs hw57 hH => ?_)
        obtain rfl : r3 = rAt 30 (pS RS 100000 1000) (inF RY (nI j1) rk) := hw57
        have hH := (hH : fx_H zA zs.heap H locs D [(h, .inr (9, [.int (nI now), .int (nI wk), .ref zcoins, .ref zdebt, .ref zfines, .ref zreading, .int (nI rk), .ref zruleYear, .ref zruleWhat, .ref zruleShare, .int (nI k), .ref zstate, .ref zholder, .ref zyearOf, .ref zusedIn, .ref zprojectOf, .ref zwent, .int ii, .int (nI bk), .ref zbidWorks, .ref zbidMany, .ref zbidPrice, .int ac, .int (nI pj), .ref zisFalse, .ref zcutMany, .ref ztonnes, .ref zcosts, .ref zgiven, .ref zcutOff, .ref zgot, .ref zcutsOf, .int sm, .int mg])), (zruleYear, .inl (cI, 30, .inl RY)), (zruleWhat, .inl (cI, 30, .inl RW)), (zruleShare, .inl (cI, 30, .inl RS))])
        exact fx_iret (v := rAt 30 (pS RS 100000 1000) (inF RY (nI j1) rk)) hQ hC hr hlk hH dX9_ruled_60 rfl (Nat.le_of_ble_eq_true rfl) (Nat.le_of_ble_eq_true rfl) (()) rfl (Or.inl ⟨j1, hj1, rfl, by rw [t13_1]; rfl⟩)
      by_cases t13_2 : t = 2
      · refine lv_tableIn (off := 48) (tgt := 61) zx zy dX9_ruled_13 (by rw [t13_2]; decide) (by rw [t13_2]; decide) (by rw [t13_2]; rfl) (by decide) ?_
        refine lv_aload_n zx zy dX9_ruled_61 rfl (lv_at hl 0 rfl) ?_
        refine lv_iload_n zx zy dX9_ruled_62 rfl (lv_at hl 1 rfl) ?_
        refine lv_bipush (v := 100) zx zy dX9_ruled_63 (by decide) ?_
        refine lv_sipush (v := 1000) zx zy dX9_ruled_65 (by decide) ?_
        refine fx_cVi (n := 3) (As := [.int (nI j1), .int 100, .int 1000]) (b := h) (rest := []) (fun (u : Unit) => [(h, .inr (9, [.int (nI now), .int (nI wk), .ref zcoins, .ref zdebt, .ref zfines, .ref zreading, .int (nI rk), .ref zruleYear, .ref zruleWhat, .ref zruleShare, .int (nI k), .ref zstate, .ref zholder, .ref zyearOf, .ref zusedIn, .ref zprojectOf, .ref zwent, .int ii, .int (nI bk), .ref zbidWorks, .ref zbidMany, .ref zbidPrice, .int ac, .int (nI pj), .ref zisFalse, .ref zcutMany, .ref ztonnes, .ref zcosts, .ref zgiven, .ref zcutOff, .ref zgot, .ref zcutsOf, .int sm, .int mg])), (zruleYear, .inl (cI, 30, .inl RY)), (zruleWhat, .inl (cI, 30, .inl RW)), (zruleShare, .inl (cI, 30, .inl RS))]) hC hA hH (k_X9_partOf l D cI cZ h zcoins zdebt zfines zreading zruleYear zruleWhat zruleShare zstate zholder zyearOf zusedIn zprojectOf zwent zbidWorks zbidMany zbidPrice zisFalse zcutMany ztonnes zcosts zgiven zcutOff zgot zcutsOf now wk rk k ii bk ac pj sm mg RY RS (nI j1) 100 1000 (by first | assumption | omega) (by decide) (by decide)) [0, 1, 3] [2] [1, 2, 0, 3] [(zruleWhat, .inl (cI, 30, .inl RW))] rfl rfl (by decide) (by decide) (fun _ => rfl) rfl gX9_ruled_X9_partOf (by decide +kernel) ⟨Nat.le_of_ble_eq_true rfl, Nat.le_of_ble_eq_true rfl⟩ 0 rfl rfl rfl rfl rfl hl.1 (Nat.le_of_ble_eq_true rfl) ⟨Nat.le_of_ble_eq_true rfl, Nat.le_of_ble_eq_true rfl⟩ dX9_ruled_68 (fun r4 u H locs hw68 hH => ?_)
        obtain rfl : r4 = rAt 30 (pS RS 100 1000) (inF RY (nI j1) rk) := hw68
        have hH := (hH : fx_H zA zs.heap H locs D [(h, .inr (9, [.int (nI now), .int (nI wk), .ref zcoins, .ref zdebt, .ref zfines, .ref zreading, .int (nI rk), .ref zruleYear, .ref zruleWhat, .ref zruleShare, .int (nI k), .ref zstate, .ref zholder, .ref zyearOf, .ref zusedIn, .ref zprojectOf, .ref zwent, .int ii, .int (nI bk), .ref zbidWorks, .ref zbidMany, .ref zbidPrice, .int ac, .int (nI pj), .ref zisFalse, .ref zcutMany, .ref ztonnes, .ref zcosts, .ref zgiven, .ref zcutOff, .ref zgot, .ref zcutsOf, .int sm, .int mg])), (zruleYear, .inl (cI, 30, .inl RY)), (zruleWhat, .inl (cI, 30, .inl RW)), (zruleShare, .inl (cI, 30, .inl RS))])
        exact fx_iret (v := rAt 30 (pS RS 100 1000) (inF RY (nI j1) rk)) hQ hC hr hlk hH dX9_ruled_71 rfl (Nat.le_of_ble_eq_true rfl) (Nat.le_of_ble_eq_true rfl) (()) rfl (Or.inl ⟨j1, hj1, rfl, by rw [t13_2]; rfl⟩)
      by_cases t13_3 : t = 3
      · refine lv_tableIn (off := 59) (tgt := 72) zx zy dX9_ruled_13 (by rw [t13_3]; decide) (by rw [t13_3]; decide) (by rw [t13_3]; rfl) (by decide) ?_
        refine lv_aload_n zx zy dX9_ruled_72 rfl (lv_at hl 0 rfl) ?_
        refine lv_iload_n zx zy dX9_ruled_73 rfl (lv_at hl 1 rfl) ?_
        refine lv_iconst (v := 1) zx zy dX9_ruled_74 (by decide) ?_
        refine lv_bipush (v := 100) zx zy dX9_ruled_75 (by decide) ?_
        refine fx_cVi (n := 3) (As := [.int (nI j1), .int 1, .int 100]) (b := h) (rest := []) (fun (u : Unit) => [(h, .inr (9, [.int (nI now), .int (nI wk), .ref zcoins, .ref zdebt, .ref zfines, .ref zreading, .int (nI rk), .ref zruleYear, .ref zruleWhat, .ref zruleShare, .int (nI k), .ref zstate, .ref zholder, .ref zyearOf, .ref zusedIn, .ref zprojectOf, .ref zwent, .int ii, .int (nI bk), .ref zbidWorks, .ref zbidMany, .ref zbidPrice, .int ac, .int (nI pj), .ref zisFalse, .ref zcutMany, .ref ztonnes, .ref zcosts, .ref zgiven, .ref zcutOff, .ref zgot, .ref zcutsOf, .int sm, .int mg])), (zruleYear, .inl (cI, 30, .inl RY)), (zruleWhat, .inl (cI, 30, .inl RW)), (zruleShare, .inl (cI, 30, .inl RS))]) hC hA hH (k_X9_partOf l D cI cZ h zcoins zdebt zfines zreading zruleYear zruleWhat zruleShare zstate zholder zyearOf zusedIn zprojectOf zwent zbidWorks zbidMany zbidPrice zisFalse zcutMany ztonnes zcosts zgiven zcutOff zgot zcutsOf now wk rk k ii bk ac pj sm mg RY RS (nI j1) 1 100 (by first | assumption | omega) (by decide) (by decide)) [0, 1, 3] [2] [1, 2, 0, 3] [(zruleWhat, .inl (cI, 30, .inl RW))] rfl rfl (by decide) (by decide) (fun _ => rfl) rfl gX9_ruled_X9_partOf (by decide +kernel) ⟨Nat.le_of_ble_eq_true rfl, Nat.le_of_ble_eq_true rfl⟩ 0 rfl rfl rfl rfl rfl hl.1 (Nat.le_of_ble_eq_true rfl) ⟨Nat.le_of_ble_eq_true rfl, Nat.le_of_ble_eq_true rfl⟩ dX9_ruled_77 (fun r5 u H locs hw77 hH => ?_)
        obtain rfl : r5 = rAt 30 (pS RS 1 100) (inF RY (nI j1) rk) := hw77
        have hH := (hH : fx_H zA zs.heap H locs D [(h, .inr (9, [.int (nI now), .int (nI wk), .ref zcoins, .ref zdebt, .ref zfines, .ref zreading, .int (nI rk), .ref zruleYear, .ref zruleWhat, .ref zruleShare, .int (nI k), .ref zstate, .ref zholder, .ref zyearOf, .ref zusedIn, .ref zprojectOf, .ref zwent, .int ii, .int (nI bk), .ref zbidWorks, .ref zbidMany, .ref zbidPrice, .int ac, .int (nI pj), .ref zisFalse, .ref zcutMany, .ref ztonnes, .ref zcosts, .ref zgiven, .ref zcutOff, .ref zgot, .ref zcutsOf, .int sm, .int mg])), (zruleYear, .inl (cI, 30, .inl RY)), (zruleWhat, .inl (cI, 30, .inl RW)), (zruleShare, .inl (cI, 30, .inl RS))])
        exact fx_iret (v := rAt 30 (pS RS 1 100) (inF RY (nI j1) rk)) hQ hC hr hlk hH dX9_ruled_80 rfl (Nat.le_of_ble_eq_true rfl) (Nat.le_of_ble_eq_true rfl) (()) rfl (Or.inl ⟨j1, hj1, rfl, by rw [t13_3]; rfl⟩)
      refine lv_tableOut (tgt := 81) zx zy dX9_ruled_13 (by have n0 := lv_neT (a := 0) t13_0 rfl; have n1 := lv_neT (a := 1) t13_1 rfl; have n2 := lv_neT (a := 2) t13_2 rfl; have n3 := lv_neT (a := 3) t13_3 rfl; omega) (by decide) ?_
      refine lv_iconst (v := (-1)) zx zy dX9_ruled_81 (by decide) ?_
      exact fx_iret (v := (-1)) hQ hC hr hlk hH dX9_ruled_82 rfl (Nat.le_of_ble_eq_true rfl) (Nat.le_of_ble_eq_true rfl) (()) rfl (Or.inl ⟨j1, hj1, rfl, (rdV_else t13_0 t13_1 t13_2 t13_3).symm⟩)
    · exact absurd c7 (by decide)
  · skip
    have hH := (hH : fx_H zA zs.heap H locs D [(h, .inr (9, [.int (nI now), .int (nI wk), .ref zcoins, .ref zdebt, .ref zfines, .ref zreading, .int (nI rk), .ref zruleYear, .ref zruleWhat, .ref zruleShare, .int (nI k), .ref zstate, .ref zholder, .ref zyearOf, .ref zusedIn, .ref zprojectOf, .ref zwent, .int ii, .int (nI bk), .ref zbidWorks, .ref zbidMany, .ref zbidPrice, .int ac, .int (nI pj), .ref zisFalse, .ref zcutMany, .ref ztonnes, .ref zcosts, .ref zgiven, .ref zcutOff, .ref zgot, .ref zcutsOf, .int sm, .int mg])), (zruleYear, .inl (cI, 30, .inl RY)), (zruleWhat, .inl (cI, 30, .inl RW)), (zruleShare, .inl (cI, 30, .inl RS))])
    refine lv_if_ne (tgt := 12) zx zy dX9_ruled_7 (by decide) (fun c7 => ?_) (fun c7 => ?_)
    · exact absurd c7 (by decide)
    · skip
      refine lv_iconst (v := (-1)) zx zy dX9_ruled_10 (by decide) ?_
      exact fx_iret (v := (-1)) hQ hC hr hlk hH dX9_ruled_11 rfl (Nat.le_of_ble_eq_true rfl) (Nat.le_of_ble_eq_true rfl) (()) rfl (Or.inr ⟨w_out (N := 19) (by omega) hg4, rfl⟩)
