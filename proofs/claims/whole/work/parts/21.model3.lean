theorem fs_here {P : Nat → Bool} {k p : Nat} (hp : p < k) (h : ∀ j, j < p → P j = false) (h1 : P p = true) : fsP P k 0 = p := fsP_eq (Nat.zero_le _) (by omega) (fun j _ b => h j b) (Or.inr h1)
theorem cnt_none {P : Nat → Bool} {k p l : Nat} (hp : k ≤ p) (h : ∀ j, j < p → P j = false) (hc : l ≤ cntP P k) : l = 0 := by
  rw [cntP_zero (fun j hj => h j (by omega))] at hc
  omega
theorem psI_1 {st : Nat → Int32} {k wf l p : Nat} {to : Int32} {ho mv : Nat → Int32} (hl : 0 < l) (e : fsP (hW st ho wf) k 0 = p) : psI st k wf to l ho mv = psI st k wf to (l - 1) (upd ho p to) (upd mv p (mv p + 1)) := by
  obtain ⟨m, rfl⟩ : ∃ m, l = m + 1 := ⟨l - 1, by omega⟩
  show psI st k wf to m (upd ho (fsP (hW st ho wf) k 0) to) (upd mv (fsP (hW st ho wf) k 0) (mv (fsP (hW st ho wf) k 0) + 1)) = _
  rw [e]; rfl
theorem usI_1 {ho : Nat → Int32} {k wi l p : Nat} {y : Int32} {st ui : Nat → Int32} (hl : 0 < l) (e : fsP (hW st ho wi) k 0 = p) : usI ho k wi y l st ui = usI ho k wi y (l - 1) (upd st p 1) (upd ui p y) := by
  obtain ⟨m, rfl⟩ : ∃ m, l = m + 1 := ⟨l - 1, by omega⟩
  show usI ho k wi y m (upd st (fsP (hW st ho wi) k 0) 1) (upd ui (fsP (hW st ho wi) k 0) y) = _
  rw [e]; rfl
theorem skI_1 {ho : Nat → Int32} {k wi l p : Nat} {st : Nat → Int32} (hl : 0 < l) (e : fsP (hW st ho wi) k 0 = p) : skI ho k wi l st = skI ho k wi (l - 1) (upd st p 2) := by
  obtain ⟨m, rfl⟩ : ∃ m, l = m + 1 := ⟨l - 1, by omega⟩
  show skI ho k wi m (upd st (fsP (hW st ho wi) k 0) 2) = _
  rw [e]; rfl
theorem no_pass {st ho : Nat → Int32} {wf wt p : Nat} {to : Int32} (h : ∀ j, j < p → hW st ho wf j = false) (hto : to + 1 = nI wt) (hne : wf ≠ wt) (hf : wf < 11) (ht : wt < 11) : ∀ j, j < p + 1 → hW st (upd ho p to) wf j = false := by
  intro j hj
  by_cases e : j = p
  · rw [e]
    refine decide_eq_false (fun z => hne ?_)
    have := z.2
    rw [pk_us, hto] at this
    exact ((nI_eq (by omega) (by omega)).mp this).symm
  · rw [hW_off rfl (pk_un e)]; exact h j (by omega)
theorem no_gone {st ho : Nat → Int32} {wf p : Nat} {x : Int32} (h : ∀ j, j < p → hW st ho wf j = false) (hx : ¬ x = 0) : ∀ j, j < p + 1 → hW (upd st p x) ho wf j = false := by
  intro j hj
  by_cases e : j = p
  · rw [e]; exact hW_f1 (by rw [pk_us]; exact hx)
  · rw [hW_off (pk_un e) rfl]; exact h j (by omega)
def cOf (st ho : Nat → Int32) (v who : Int32) (j : Nat) : Bool := decide (st j = v ∧ (who = -2147483648 ∨ ho j = who))
set_option maxHeartbeats 4000000 in
set_option maxRecDepth 100000 in
theorem k_X9_comes (l : Launch) (D : va_G) (cI cZ : ClassId) (h : Nat) (zcoins : Nat) (zdebt : Nat) (zfines : Nat) (zreading : Nat) (zruleYear : Nat) (zruleWhat : Nat) (zruleShare : Nat) (zstate : Nat) (zholder : Nat) (zyearOf : Nat) (zusedIn : Nat) (zprojectOf : Nat) (zwent : Nat) (zbidWorks : Nat) (zbidMany : Nat) (zbidPrice : Nat) (zisFalse : Nat) (zcutMany : Nat) (ztonnes : Nat) (zcosts : Nat) (zgiven : Nat) (zcutOff : Nat) (zgot : Nat) (zcutsOf : Nat) (now : Nat) (wk : Nat) (rk : Nat) (k : Nat) (ii : Int32) (bk : Nat) (ac : Int32) (pj : Nat) (sm : Int32) (mg : Int32) (ST : Nat → Int32) (HO : Nat → Int32) (YO : Nat → Int32) (UI : Nat → Int32) (PO : Nat → Int32) (a : Int32) (pr : Int32) (hk : k < 4000) : fx_CV l D cI cZ yX9_comes wsX9_comes ({ frames := 0, cells := 0, slots := 0, locals := 0 }) [.ref h, .int a, .int pr] [(h, .inr (9, [.int (nI now), .int (nI wk), .ref zcoins, .ref zdebt, .ref zfines, .ref zreading, .int (nI rk), .ref zruleYear, .ref zruleWhat, .ref zruleShare, .int (nI k), .ref zstate, .ref zholder, .ref zyearOf, .ref zusedIn, .ref zprojectOf, .ref zwent, .int ii, .int (nI bk), .ref zbidWorks, .ref zbidMany, .ref zbidPrice, .int ac, .int (nI pj), .ref zisFalse, .ref zcutMany, .ref ztonnes, .ref zcosts, .ref zgiven, .ref zcutOff, .ref zgot, .ref zcutsOf, .int sm, .int mg])), (zstate, .inl (cI, 4000, .inl ST)), (zholder, .inl (cI, 4000, .inl HO)), (zyearOf, .inl (cI, 4000, .inl YO)), (zusedIn, .inl (cI, 4000, .inl UI)), (zprojectOf, .inl (cI, 4000, .inl PO))] (fun (u : (Nat) × (Nat → Int32) × (Nat → Int32) × (Nat → Int32) × (Nat → Int32) × (Nat → Int32)) => [(h, .inr (9, [.int (nI now), .int (nI wk), .ref zcoins, .ref zdebt, .ref zfines, .ref zreading, .int (nI rk), .ref zruleYear, .ref zruleWhat, .ref zruleShare, .int (nI u.1), .ref zstate, .ref zholder, .ref zyearOf, .ref zusedIn, .ref zprojectOf, .ref zwent, .int ii, .int (nI bk), .ref zbidWorks, .ref zbidMany, .ref zbidPrice, .int ac, .int (nI pj), .ref zisFalse, .ref zcutMany, .ref ztonnes, .ref zcosts, .ref zgiven, .ref zcutOff, .ref zgot, .ref zcutsOf, .int sm, .int mg])), (zstate, .inl (cI, 4000, .inl u.2.1)), (zholder, .inl (cI, 4000, .inl u.2.2.1)), (zyearOf, .inl (cI, 4000, .inl u.2.2.2.1)), (zusedIn, .inl (cI, 4000, .inl u.2.2.2.2.1)), (zprojectOf, .inl (cI, 4000, .inl u.2.2.2.2.2))]) (fun (u : (Nat) × (Nat → Int32) × (Nat → Int32) × (Nat → Int32) × (Nat → Int32) × (Nat → Int32)) => u.1 = k + 1 ∧ u.2.1 = upd ST k 0 ∧ u.2.2.1 = upd HO k a ∧ u.2.2.2.1 = upd YO k (nI now) ∧ u.2.2.2.2.1 = upd UI k (-1) ∧ u.2.2.2.2.2 = upd PO k pr) := by
  refine fx_CV.of (ws' := (wsX9_comes).tail) cX9_comes 3 (by decide) rfl (Nat.le_of_ble_eq_true rfl) ?_
  intro zp ze zs zm za zb zt zc zA ls zQ hQ hC hr hlk hnm hA hH hl
  have zx := hC.1.1
  have zy := hC.1.2.1
  have hl : lv_has ls 3 [(0, .ref h), (1, .int a), (2, .int pr)] := hl
  refine lv_aload_n zx zy dX9_comes_0 rfl (lv_at hl 0 rfl) ?_
  refine fx_get (C := RX9) (T := TX9) (N := 34) hC (fun _ h => List.mem_cons_of_mem _ (List.mem_append_right _ h)) hH 0 rfl rfl 11 (by decide) (by decide +kernel) rfl dX9_comes_1 ?_
  refine lv_aload_n zx zy dX9_comes_4 rfl (lv_at hl 0 rfl) ?_
  refine fx_get (C := RX9) (T := TX9) (N := 34) hC (fun _ h => List.mem_cons_of_mem _ (List.mem_append_right _ h)) hH 0 rfl rfl 10 (by decide) (by decide +kernel) rfl dX9_comes_5 ?_
  refine lv_iconst (v := 0) zx zy dX9_comes_8 (by decide) ?_
  refine fx_ist (ws2 := [(h, .inr (9, [.int (nI now), .int (nI wk), .ref zcoins, .ref zdebt, .ref zfines, .ref zreading, .int (nI rk), .ref zruleYear, .ref zruleWhat, .ref zruleShare, .int (nI k), .ref zstate, .ref zholder, .ref zyearOf, .ref zusedIn, .ref zprojectOf, .ref zwent, .int ii, .int (nI bk), .ref zbidWorks, .ref zbidMany, .ref zbidPrice, .int ac, .int (nI pj), .ref zisFalse, .ref zcutMany, .ref ztonnes, .ref zcosts, .ref zgiven, .ref zcutOff, .ref zgot, .ref zcutsOf, .int sm, .int mg])), (zstate, .inl (cI, 4000, .inl (upd ST (nI k).toNatClampNeg 0))), (zholder, .inl (cI, 4000, .inl HO)), (zyearOf, .inl (cI, 4000, .inl YO)), (zusedIn, .inl (cI, 4000, .inl UI)), (zprojectOf, .inl (cI, 4000, .inl PO))]) hC hH 1 rfl (vp_in_nI (by omega) (by omega)) rfl dX9_comes_9 (fun H locs hH => ?_)
  rw [show (upd ST (nI k).toNatClampNeg 0 : Nat → Int32) = upd ST k 0 from (by rw [nI_clamp (by omega)])] at hH
  refine lv_aload_n zx zy dX9_comes_10 rfl (lv_at hl 0 rfl) ?_
  refine fx_get (C := RX9) (T := TX9) (N := 34) hC (fun _ h => List.mem_cons_of_mem _ (List.mem_append_right _ h)) hH 0 rfl rfl 12 (by decide) (by decide +kernel) rfl dX9_comes_11 ?_
  refine lv_aload_n zx zy dX9_comes_14 rfl (lv_at hl 0 rfl) ?_
  refine fx_get (C := RX9) (T := TX9) (N := 34) hC (fun _ h => List.mem_cons_of_mem _ (List.mem_append_right _ h)) hH 0 rfl rfl 10 (by decide) (by decide +kernel) rfl dX9_comes_15 ?_
  refine lv_iload_n zx zy dX9_comes_18 rfl (lv_at hl 1 rfl) ?_
  refine fx_ist (ws2 := [(h, .inr (9, [.int (nI now), .int (nI wk), .ref zcoins, .ref zdebt, .ref zfines, .ref zreading, .int (nI rk), .ref zruleYear, .ref zruleWhat, .ref zruleShare, .int (nI k), .ref zstate, .ref zholder, .ref zyearOf, .ref zusedIn, .ref zprojectOf, .ref zwent, .int ii, .int (nI bk), .ref zbidWorks, .ref zbidMany, .ref zbidPrice, .int ac, .int (nI pj), .ref zisFalse, .ref zcutMany, .ref ztonnes, .ref zcosts, .ref zgiven, .ref zcutOff, .ref zgot, .ref zcutsOf, .int sm, .int mg])), (zstate, .inl (cI, 4000, .inl (upd ST k 0))), (zholder, .inl (cI, 4000, .inl (upd HO (nI k).toNatClampNeg a))), (zyearOf, .inl (cI, 4000, .inl YO)), (zusedIn, .inl (cI, 4000, .inl UI)), (zprojectOf, .inl (cI, 4000, .inl PO))]) hC hH 2 rfl (vp_in_nI (by omega) (by omega)) rfl dX9_comes_19 (fun H locs hH => ?_)
  rw [show (upd HO (nI k).toNatClampNeg a : Nat → Int32) = upd HO k a from (by rw [nI_clamp (by omega)])] at hH
  refine lv_aload_n zx zy dX9_comes_20 rfl (lv_at hl 0 rfl) ?_
  refine fx_get (C := RX9) (T := TX9) (N := 34) hC (fun _ h => List.mem_cons_of_mem _ (List.mem_append_right _ h)) hH 0 rfl rfl 13 (by decide) (by decide +kernel) rfl dX9_comes_21 ?_
  refine lv_aload_n zx zy dX9_comes_24 rfl (lv_at hl 0 rfl) ?_
  refine fx_get (C := RX9) (T := TX9) (N := 34) hC (fun _ h => List.mem_cons_of_mem _ (List.mem_append_right _ h)) hH 0 rfl rfl 10 (by decide) (by decide +kernel) rfl dX9_comes_25 ?_
  refine lv_aload_n zx zy dX9_comes_28 rfl (lv_at hl 0 rfl) ?_
  refine fx_get (C := RX9) (T := TX9) (N := 34) hC (fun _ h => List.mem_cons_of_mem _ (List.mem_append_right _ h)) hH 0 rfl rfl 0 (by decide) (by decide +kernel) rfl dX9_comes_29 ?_
  refine fx_ist (ws2 := [(h, .inr (9, [.int (nI now), .int (nI wk), .ref zcoins, .ref zdebt, .ref zfines, .ref zreading, .int (nI rk), .ref zruleYear, .ref zruleWhat, .ref zruleShare, .int (nI k), .ref zstate, .ref zholder, .ref zyearOf, .ref zusedIn, .ref zprojectOf, .ref zwent, .int ii, .int (nI bk), .ref zbidWorks, .ref zbidMany, .ref zbidPrice, .int ac, .int (nI pj), .ref zisFalse, .ref zcutMany, .ref ztonnes, .ref zcosts, .ref zgiven, .ref zcutOff, .ref zgot, .ref zcutsOf, .int sm, .int mg])), (zstate, .inl (cI, 4000, .inl (upd ST k 0))), (zholder, .inl (cI, 4000, .inl (upd HO k a))), (zyearOf, .inl (cI, 4000, .inl (upd YO (nI k).toNatClampNeg (nI now)))), (zusedIn, .inl (cI, 4000, .inl UI)), (zprojectOf, .inl (cI, 4000, .inl PO))]) hC hH 3 rfl (vp_in_nI (by omega) (by omega)) rfl dX9_comes_32 (fun H locs hH => ?_)
  rw [show (upd YO (nI k).toNatClampNeg (nI now) : Nat → Int32) = upd YO k (nI now) from (by rw [nI_clamp (by omega)])] at hH
  refine lv_aload_n zx zy dX9_comes_33 rfl (lv_at hl 0 rfl) ?_
  refine fx_get (C := RX9) (T := TX9) (N := 34) hC (fun _ h => List.mem_cons_of_mem _ (List.mem_append_right _ h)) hH 0 rfl rfl 14 (by decide) (by decide +kernel) rfl dX9_comes_34 ?_
  refine lv_aload_n zx zy dX9_comes_37 rfl (lv_at hl 0 rfl) ?_
  refine fx_get (C := RX9) (T := TX9) (N := 34) hC (fun _ h => List.mem_cons_of_mem _ (List.mem_append_right _ h)) hH 0 rfl rfl 10 (by decide) (by decide +kernel) rfl dX9_comes_38 ?_
  refine lv_iconst (v := (-1)) zx zy dX9_comes_41 (by decide) ?_
  refine fx_ist (ws2 := [(h, .inr (9, [.int (nI now), .int (nI wk), .ref zcoins, .ref zdebt, .ref zfines, .ref zreading, .int (nI rk), .ref zruleYear, .ref zruleWhat, .ref zruleShare, .int (nI k), .ref zstate, .ref zholder, .ref zyearOf, .ref zusedIn, .ref zprojectOf, .ref zwent, .int ii, .int (nI bk), .ref zbidWorks, .ref zbidMany, .ref zbidPrice, .int ac, .int (nI pj), .ref zisFalse, .ref zcutMany, .ref ztonnes, .ref zcosts, .ref zgiven, .ref zcutOff, .ref zgot, .ref zcutsOf, .int sm, .int mg])), (zstate, .inl (cI, 4000, .inl (upd ST k 0))), (zholder, .inl (cI, 4000, .inl (upd HO k a))), (zyearOf, .inl (cI, 4000, .inl (upd YO k (nI now)))), (zusedIn, .inl (cI, 4000, .inl (upd UI (nI k).toNatClampNeg (-1)))), (zprojectOf, .inl (cI, 4000, .inl PO))]) hC hH 4 rfl (vp_in_nI (by omega) (by omega)) rfl dX9_comes_42 (fun H locs hH => ?_)
  rw [show (upd UI (nI k).toNatClampNeg (-1) : Nat → Int32) = upd UI k (-1) from (by rw [nI_clamp (by omega)])] at hH
  refine lv_aload_n zx zy dX9_comes_43 rfl (lv_at hl 0 rfl) ?_
  refine fx_get (C := RX9) (T := TX9) (N := 34) hC (fun _ h => List.mem_cons_of_mem _ (List.mem_append_right _ h)) hH 0 rfl rfl 15 (by decide) (by decide +kernel) rfl dX9_comes_44 ?_
  refine lv_aload_n zx zy dX9_comes_47 rfl (lv_at hl 0 rfl) ?_
  refine fx_get (C := RX9) (T := TX9) (N := 34) hC (fun _ h => List.mem_cons_of_mem _ (List.mem_append_right _ h)) hH 0 rfl rfl 10 (by decide) (by decide +kernel) rfl dX9_comes_48 ?_
  refine lv_iload_n zx zy dX9_comes_51 rfl (lv_at hl 2 rfl) ?_
  refine fx_ist (ws2 := [(h, .inr (9, [.int (nI now), .int (nI wk), .ref zcoins, .ref zdebt, .ref zfines, .ref zreading, .int (nI rk), .ref zruleYear, .ref zruleWhat, .ref zruleShare, .int (nI k), .ref zstate, .ref zholder, .ref zyearOf, .ref zusedIn, .ref zprojectOf, .ref zwent, .int ii, .int (nI bk), .ref zbidWorks, .ref zbidMany, .ref zbidPrice, .int ac, .int (nI pj), .ref zisFalse, .ref zcutMany, .ref ztonnes, .ref zcosts, .ref zgiven, .ref zcutOff, .ref zgot, .ref zcutsOf, .int sm, .int mg])), (zstate, .inl (cI, 4000, .inl (upd ST k 0))), (zholder, .inl (cI, 4000, .inl (upd HO k a))), (zyearOf, .inl (cI, 4000, .inl (upd YO k (nI now)))), (zusedIn, .inl (cI, 4000, .inl (upd UI k (-1)))), (zprojectOf, .inl (cI, 4000, .inl (upd PO (nI k).toNatClampNeg pr)))]) hC hH 5 rfl (vp_in_nI (by omega) (by omega)) rfl dX9_comes_52 (fun H locs hH => ?_)
  rw [show (upd PO (nI k).toNatClampNeg pr : Nat → Int32) = upd PO k pr from (by rw [nI_clamp (by omega)])] at hH
  refine lv_aload_n zx zy dX9_comes_53 rfl (lv_at hl 0 rfl) ?_
  refine lv_dup zx zy dX9_comes_54 rfl ?_
  refine fx_get (C := RX9) (T := TX9) (N := 34) hC (fun _ h => List.mem_cons_of_mem _ (List.mem_append_right _ h)) hH 0 rfl rfl 10 (by decide) (by decide +kernel) rfl dX9_comes_55 ?_
  refine lv_iconst (v := 1) zx zy dX9_comes_58 (by decide) ?_
  refine lv_iadd zx zy dX9_comes_59 ?_
  refine lv_topi (fun v1 ev1 => ?_)
  obtain rfl : v1 = nI (k + 1) := ev1.trans (nI_1 k)
  refine fx_put (C := RX9) (T := TX9) (N := 34) (ty := .int) (ws2 := [(h, .inr (9, [.int (nI now), .int (nI wk), .ref zcoins, .ref zdebt, .ref zfines, .ref zreading, .int (nI rk), .ref zruleYear, .ref zruleWhat, .ref zruleShare, .int (nI (k + 1)), .ref zstate, .ref zholder, .ref zyearOf, .ref zusedIn, .ref zprojectOf, .ref zwent, .int ii, .int (nI bk), .ref zbidWorks, .ref zbidMany, .ref zbidPrice, .int ac, .int (nI pj), .ref zisFalse, .ref zcutMany, .ref ztonnes, .ref zcosts, .ref zgiven, .ref zcutOff, .ref zgot, .ref zcutsOf, .int sm, .int mg])), (zstate, .inl (cI, 4000, .inl (upd ST k 0))), (zholder, .inl (cI, 4000, .inl (upd HO k a))), (zyearOf, .inl (cI, 4000, .inl (upd YO k (nI now)))), (zusedIn, .inl (cI, 4000, .inl (upd UI k (-1)))), (zprojectOf, .inl (cI, 4000, .inl (upd PO k pr)))]) hC (fun _ h => List.mem_cons_of_mem _ (List.mem_append_right _ h)) tyX9_ok nmX9 hH 0 rfl rfl 10 (by decide) (by decide +kernel) rfl rfl rfl rfl (Nat.le_of_ble_eq_true rfl) rfl dX9_comes_60 (fun H locs hH => ?_)
  exact fx_vret hQ hC hr hlk hH dX9_comes_63 (Nat.le_of_ble_eq_true rfl) (Nat.le_of_ble_eq_true rfl) (((k + 1), upd ST k 0, upd HO k a, upd YO k (nI now), upd UI k (-1), upd PO k pr)) rfl (⟨rfl, rfl, rfl, rfl, rfl, rfl⟩)
set_option maxHeartbeats 4000000 in
set_option maxRecDepth 100000 in
theorem k_X9_holds (l : Launch) (D : va_G) (cI cZ : ClassId) (h : Nat) (zcoins : Nat) (zdebt : Nat) (zfines : Nat) (zreading : Nat) (zruleYear : Nat) (zruleWhat : Nat) (zruleShare : Nat) (zstate : Nat) (zholder : Nat) (zyearOf : Nat) (zusedIn : Nat) (zprojectOf : Nat) (zwent : Nat) (zbidWorks : Nat) (zbidMany : Nat) (zbidPrice : Nat) (zisFalse : Nat) (zcutMany : Nat) (ztonnes : Nat) (zcosts : Nat) (zgiven : Nat) (zcutOff : Nat) (zgot : Nat) (zcutsOf : Nat) (now : Nat) (wk : Nat) (rk : Nat) (k : Nat) (ii : Int32) (bk : Nat) (ac : Int32) (pj : Nat) (sm : Int32) (mg : Int32) (ST : Nat → Int32) (HO : Nat → Int32) (who : Int32) (wi : Nat) (hwi : who + 1 = nI wi) (hw11 : wi < 11) (hk4 : k ≤ 4000) : fx_CI l D cI cZ yX9_holds wsX9_holds ({ frames := 0, cells := 0, slots := 0, locals := 0 }) [.ref h, .int who] [(h, .inr (9, [.int (nI now), .int (nI wk), .ref zcoins, .ref zdebt, .ref zfines, .ref zreading, .int (nI rk), .ref zruleYear, .ref zruleWhat, .ref zruleShare, .int (nI k), .ref zstate, .ref zholder, .ref zyearOf, .ref zusedIn, .ref zprojectOf, .ref zwent, .int ii, .int (nI bk), .ref zbidWorks, .ref zbidMany, .ref zbidPrice, .int ac, .int (nI pj), .ref zisFalse, .ref zcutMany, .ref ztonnes, .ref zcosts, .ref zgiven, .ref zcutOff, .ref zgot, .ref zcutsOf, .int sm, .int mg])), (zstate, .inl (cI, 4000, .inl ST)), (zholder, .inl (cI, 4000, .inl HO))] (fun (u : Unit) => [(h, .inr (9, [.int (nI now), .int (nI wk), .ref zcoins, .ref zdebt, .ref zfines, .ref zreading, .int (nI rk), .ref zruleYear, .ref zruleWhat, .ref zruleShare, .int (nI k), .ref zstate, .ref zholder, .ref zyearOf, .ref zusedIn, .ref zprojectOf, .ref zwent, .int ii, .int (nI bk), .ref zbidWorks, .ref zbidMany, .ref zbidPrice, .int ac, .int (nI pj), .ref zisFalse, .ref zcutMany, .ref ztonnes, .ref zcosts, .ref zgiven, .ref zcutOff, .ref zgot, .ref zcutsOf, .int sm, .int mg])), (zstate, .inl (cI, 4000, .inl ST)), (zholder, .inl (cI, 4000, .inl HO))]) (fun (r : Int32) (u : Unit) => r = nI (cntP (hW ST HO wi) k)) := by
  refine fx_CI.of (ws' := (wsX9_holds).tail) cX9_holds 4 (by decide) rfl (Nat.le_of_ble_eq_true rfl) ?_
  intro zp ze zs zm za zb zt zc zA ls zQ hQ hC hr hlk hA hH hl
  have zx := hC.1.1
  have zy := hC.1.2.1
  have hl : lv_has ls 4 [(0, .ref h), (1, .int who)] := hl
  refine lv_iconst (v := 0) zx zy dX9_holds_0 (by decide) ?_
  refine lv_istore_n (lv' := [(2, .int 0), (0, .ref h), (1, .int who)]) zx zy dX9_holds_1 rfl hl (by decide) rfl (fun ls hl => ?_)
  refine lv_iconst (v := 0) zx zy dX9_holds_2 (by decide) ?_
  refine lv_topi (fun v1 ev1 => ?_)
  obtain rfl : v1 = nI 0 := ev1.trans (rfl)
  refine lv_istore_n (lv' := [(3, .int (nI 0)), (2, .int 0), (0, .ref h), (1, .int who)]) zx zy dX9_holds_3 rfl hl (by decide) rfl (fun ls hl => ?_)
  have L4 : ∀ (fu : Nat) (i : Nat) (n : Int32) (hi : i ≤ k) (hn : n = nI (cntP (hW ST HO wi) i)) (H : Heap) (locs : List Loc) (ls : Array Slot), k - i < fu → fx_H zA zs.heap H locs D [(h, .inr (9, [.int (nI now), .int (nI wk), .ref zcoins, .ref zdebt, .ref zfines, .ref zreading, .int (nI rk), .ref zruleYear, .ref zruleWhat, .ref zruleShare, .int (nI k), .ref zstate, .ref zholder, .ref zyearOf, .ref zusedIn, .ref zprojectOf, .ref zwent, .int ii, .int (nI bk), .ref zbidWorks, .ref zbidMany, .ref zbidPrice, .int ac, .int (nI pj), .ref zisFalse, .ref zcutMany, .ref ztonnes, .ref zcosts, .ref zgiven, .ref zcutOff, .ref zgot, .ref zcutsOf, .int sm, .int mg])), (zstate, .inl (cI, 4000, .inl ST)), (zholder, .inl (cI, 4000, .inl HO))] → lv_has ls 4 [(0, .ref h), (1, .int who), (2, .int n), (3, .int (nI i))] → W zp l ze ({ frames := 0, cells := 0, slots := 0, locals := 0 }) zs zm za zb zt zc H locs (0) (0) zQ (F0 zm 4 ls []) := by
    intro fu
    induction fu with
    | zero => intro i n hi hn H locs ls hfu; exact absurd hfu (Nat.not_lt_zero _)
    | succ fu ih4 =>
      intro i n hi hn H locs ls hfu4 hH hl
      refine lv_iload_n zx zy dX9_holds_4 rfl (lv_at hl 3 rfl) ?_
      refine lv_aload_n zx zy dX9_holds_5 rfl (lv_at hl 0 rfl) ?_
      refine fx_get (C := RX9) (T := TX9) (N := 34) hC (fun _ h => List.mem_cons_of_mem _ (List.mem_append_right _ h)) hH 0 rfl rfl 10 (by decide) (by decide +kernel) rfl dX9_holds_6 ?_
      refine lv_icmp_ge (tgt := 45) zx zy dX9_holds_9 (by decide) (fun c9 => ?_) (fun c9 => ?_)
      · skip
        refine lv_iload_n zx zy dX9_holds_45 rfl (lv_at hl 2 rfl) ?_
        exact fx_iret (v := n) hQ hC hr hlk hH dX9_holds_46 rfl (Nat.le_of_ble_eq_true rfl) (Nat.le_of_ble_eq_true rfl) (()) rfl (by rw [hn, Nat.le_antisymm hi (fx_le_of c9 (by omega) (by omega))])
      · skip
        have hlt : i < k := fx_lt_of c9 (by omega)
        refine lv_iload_n zx zy dX9_holds_12 rfl (lv_at hl 2 rfl) ?_
        refine lv_aload_n zx zy dX9_holds_13 rfl (lv_at hl 0 rfl) ?_
        refine fx_get (C := RX9) (T := TX9) (N := 34) hC (fun _ h => List.mem_cons_of_mem _ (List.mem_append_right _ h)) hH 0 rfl rfl 11 (by decide) (by decide +kernel) rfl dX9_holds_14 ?_
        refine lv_iload_n zx zy dX9_holds_17 rfl (lv_at hl 3 rfl) ?_
        refine fx_ild hC hH 1 rfl (vp_in_nI (by omega) (by omega)) dX9_holds_18 ?_
        refine lv_topi (fun v2 ev2 => ?_)
        obtain rfl : v2 = ST i := ev2.trans (congrArg ST (nI_clamp (by omega)))
        refine lv_if_ne (tgt := 36) zx zy dX9_holds_19 (by decide) (fun c19 => ?_) (fun c19 => ?_)
        · skip
          refine lv_iconst (v := 0) zx zy dX9_holds_36 (by decide) ?_
          refine lv_iadd zx zy dX9_holds_37 ?_
          refine lv_istore_n (lv' := [(2, .int (n + 0)), (0, .ref h), (1, .int who), (3, .int (nI i))]) zx zy dX9_holds_38 rfl hl (by decide) rfl (fun ls hl => ?_)
          refine lv_iinc (v := nI (i + 1)) (lv' := [(3, .int (nI (i + 1))), (2, .int (n + 0)), (0, .ref h), (1, .int who)]) zx zy dX9_holds_39 hl (k := 3) rfl (nI_1 _) (by decide) rfl (fun ls hl => ?_)
          refine lv_goto (tgt := 4) zx zy dX9_holds_42 (by decide) ?_
          exact ih4 (i + 1) (n + 0) (by first | assumption | omega) (by rw [hn]; first | (rw [cnt_t (hW_t hwi c19 c29)]; exact nI_1 _) | (rw [cnt_f (hW_f1 c19)]; exact Int32.add_zero _) | (rw [cnt_f (hW_f2 hwi c29)]; exact Int32.add_zero _)) _ _ _ (by omega) hH (lv_sub hl [2, 3, 1, 0] rfl)
        · skip
          refine lv_aload_n zx zy dX9_holds_22 rfl (lv_at hl 0 rfl) ?_
          refine fx_get (C := RX9) (T := TX9) (N := 34) hC (fun _ h => List.mem_cons_of_mem _ (List.mem_append_right _ h)) hH 0 rfl rfl 12 (by decide) (by decide +kernel) rfl dX9_holds_23 ?_
          refine lv_iload_n zx zy dX9_holds_26 rfl (lv_at hl 3 rfl) ?_
          refine fx_ild hC hH 2 rfl (vp_in_nI (by omega) (by omega)) dX9_holds_27 ?_
          refine lv_topi (fun v3 ev3 => ?_)
          obtain rfl : v3 = HO i := ev3.trans (congrArg HO (nI_clamp (by omega)))
          refine lv_iload_n zx zy dX9_holds_28 rfl (lv_at hl 1 rfl) ?_
          refine lv_icmp_ne (tgt := 36) zx zy dX9_holds_29 (by decide) (fun c29 => ?_) (fun c29 => ?_)
          · skip
            refine lv_iconst (v := 0) zx zy dX9_holds_36 (by decide) ?_
            refine lv_iadd zx zy dX9_holds_37 ?_
            refine lv_istore_n (lv' := [(2, .int (n + 0)), (0, .ref h), (1, .int who), (3, .int (nI i))]) zx zy dX9_holds_38 rfl hl (by decide) rfl (fun ls hl => ?_)
            refine lv_iinc (v := nI (i + 1)) (lv' := [(3, .int (nI (i + 1))), (2, .int (n + 0)), (0, .ref h), (1, .int who)]) zx zy dX9_holds_39 hl (k := 3) rfl (nI_1 _) (by decide) rfl (fun ls hl => ?_)
            refine lv_goto (tgt := 4) zx zy dX9_holds_42 (by decide) ?_
            exact ih4 (i + 1) (n + 0) (by first | assumption | omega) (by rw [hn]; first | (rw [cnt_t (hW_t hwi c19 c29)]; exact nI_1 _) | (rw [cnt_f (hW_f1 c19)]; exact Int32.add_zero _) | (rw [cnt_f (hW_f2 hwi c29)]; exact Int32.add_zero _)) _ _ _ (by omega) hH (lv_sub hl [2, 3, 1, 0] rfl)
          · skip
            refine lv_iconst (v := 1) zx zy dX9_holds_32 (by decide) ?_
            refine lv_goto (tgt := 37) zx zy dX9_holds_33 (by decide) ?_
            refine lv_iadd zx zy dX9_holds_37 ?_
            refine lv_istore_n (lv' := [(2, .int (n + 1)), (0, .ref h), (1, .int who), (3, .int (nI i))]) zx zy dX9_holds_38 rfl hl (by decide) rfl (fun ls hl => ?_)
            refine lv_iinc (v := nI (i + 1)) (lv' := [(3, .int (nI (i + 1))), (2, .int (n + 1)), (0, .ref h), (1, .int who)]) zx zy dX9_holds_39 hl (k := 3) rfl (nI_1 _) (by decide) rfl (fun ls hl => ?_)
            refine lv_goto (tgt := 4) zx zy dX9_holds_42 (by decide) ?_
            exact ih4 (i + 1) (n + 1) (by first | assumption | omega) (by rw [hn]; first | (rw [cnt_t (hW_t hwi c19 c29)]; exact nI_1 _) | (rw [cnt_f (hW_f1 c19)]; exact Int32.add_zero _) | (rw [cnt_f (hW_f2 hwi c29)]; exact Int32.add_zero _)) _ _ _ (by omega) hH (lv_sub hl [2, 3, 1, 0] rfl)
  exact L4 _ 0 0 (by first | assumption | omega) (rfl) _ _ _ (Nat.lt_succ_self _) hH (lv_sub hl [2, 3, 1, 0] rfl)
set_option maxHeartbeats 4000000 in
set_option maxRecDepth 100000 in
theorem k_X9_goes (l : Launch) (D : va_G) (cI cZ : ClassId) (h : Nat) (zcoins : Nat) (zdebt : Nat) (zfines : Nat) (zreading : Nat) (zruleYear : Nat) (zruleWhat : Nat) (zruleShare : Nat) (zstate : Nat) (zholder : Nat) (zyearOf : Nat) (zusedIn : Nat) (zprojectOf : Nat) (zwent : Nat) (zbidWorks : Nat) (zbidMany : Nat) (zbidPrice : Nat) (zisFalse : Nat) (zcutMany : Nat) (ztonnes : Nat) (zcosts : Nat) (zgiven : Nat) (zcutOff : Nat) (zgot : Nat) (zcutsOf : Nat) (now : Nat) (wk : Nat) (rk : Nat) (k : Nat) (ii : Int32) (bk : Nat) (ac : Int32) (pj : Nat) (sm : Int32) (mg : Int32) (ST : Nat → Int32) (HO : Nat → Int32) (WE : Nat → Int32) (fr : Int32) (to : Int32) (wf : Nat) (wt : Nat) (n : Nat) (hwf : fr + 1 = nI wf) (hwt : to + 1 = nI wt) (hf11 : wf < 11) (ht11 : wt < 11) (hne : wf ≠ wt) (hk4 : k ≤ 4000) (hcnt : n ≤ cntP (hW ST HO wf) k) : fx_CV l D cI cZ yX9_goes wsX9_goes ({ frames := 0, cells := 0, slots := 0, locals := 0 }) [.ref h, .int fr, .int to, .int (nI n)] [(h, .inr (9, [.int (nI now), .int (nI wk), .ref zcoins, .ref zdebt, .ref zfines, .ref zreading, .int (nI rk), .ref zruleYear, .ref zruleWhat, .ref zruleShare, .int (nI k), .ref zstate, .ref zholder, .ref zyearOf, .ref zusedIn, .ref zprojectOf, .ref zwent, .int ii, .int (nI bk), .ref zbidWorks, .ref zbidMany, .ref zbidPrice, .int ac, .int (nI pj), .ref zisFalse, .ref zcutMany, .ref ztonnes, .ref zcosts, .ref zgiven, .ref zcutOff, .ref zgot, .ref zcutsOf, .int sm, .int mg])), (zstate, .inl (cI, 4000, .inl ST)), (zholder, .inl (cI, 4000, .inl HO)), (zwent, .inl (cI, 4000, .inl WE))] (fun (u : (Nat → Int32) × (Nat → Int32)) => [(h, .inr (9, [.int (nI now), .int (nI wk), .ref zcoins, .ref zdebt, .ref zfines, .ref zreading, .int (nI rk), .ref zruleYear, .ref zruleWhat, .ref zruleShare, .int (nI k), .ref zstate, .ref zholder, .ref zyearOf, .ref zusedIn, .ref zprojectOf, .ref zwent, .int ii, .int (nI bk), .ref zbidWorks, .ref zbidMany, .ref zbidPrice, .int ac, .int (nI pj), .ref zisFalse, .ref zcutMany, .ref ztonnes, .ref zcosts, .ref zgiven, .ref zcutOff, .ref zgot, .ref zcutsOf, .int sm, .int mg])), (zstate, .inl (cI, 4000, .inl ST)), (zholder, .inl (cI, 4000, .inl u.1)), (zwent, .inl (cI, 4000, .inl u.2))]) (fun (u : (Nat → Int32) × (Nat → Int32)) => u.1 = (psI ST k wf to n HO WE).1 ∧ u.2 = (psI ST k wf to n HO WE).2) := by
  refine fx_CV.of (ws' := (wsX9_goes).tail) cX9_goes 6 (by decide) rfl (Nat.le_of_ble_eq_true rfl) ?_
  intro zp ze zs zm za zb zt zc zA ls zQ hQ hC hr hlk hnm hA hH hl
  have zx := hC.1.1
  have zy := hC.1.2.1
  have hl : lv_has ls 6 [(0, .ref h), (1, .int fr), (2, .int to), (3, .int (nI n))] := hl
  refine lv_iload_n zx zy dX9_goes_0 rfl (lv_at hl 3 rfl) ?_
  refine lv_istore (lv' := [(4, .int (nI n)), (0, .ref h), (1, .int fr), (2, .int to), (3, .int (nI n))]) zx zy dX9_goes_1 hl (by decide) rfl (fun ls hl => ?_)
  refine lv_iconst (v := 0) zx zy dX9_goes_3 (by decide) ?_
  refine lv_topi (fun v1 ev1 => ?_)
  obtain rfl : v1 = nI 0 := ev1.trans (rfl)
  refine lv_istore (lv' := [(5, .int (nI 0)), (4, .int (nI n)), (0, .ref h), (1, .int fr), (2, .int to), (3, .int (nI n))]) zx zy dX9_goes_4 hl (by decide) rfl (fun ls hl => ?_)
  have L6 : ∀ (fu : Nat) (p : Nat) (l4 : Nat) (ho : Nat → Int32) (mv : Nat → Int32) (hp : p ≤ k) (hG : psI ST k wf to l4 ho mv = psI ST k wf to n HO WE) (hno : ∀ j, j < p → hW ST ho wf j = false) (hc : l4 ≤ cntP (hW ST ho wf) k) (H : Heap) (locs : List Loc) (ls : Array Slot), k - p < fu → fx_H zA zs.heap H locs D [(h, .inr (9, [.int (nI now), .int (nI wk), .ref zcoins, .ref zdebt, .ref zfines, .ref zreading, .int (nI rk), .ref zruleYear, .ref zruleWhat, .ref zruleShare, .int (nI k), .ref zstate, .ref zholder, .ref zyearOf, .ref zusedIn, .ref zprojectOf, .ref zwent, .int ii, .int (nI bk), .ref zbidWorks, .ref zbidMany, .ref zbidPrice, .int ac, .int (nI pj), .ref zisFalse, .ref zcutMany, .ref ztonnes, .ref zcosts, .ref zgiven, .ref zcutOff, .ref zgot, .ref zcutsOf, .int sm, .int mg])), (zstate, .inl (cI, 4000, .inl ST)), (zholder, .inl (cI, 4000, .inl ho)), (zwent, .inl (cI, 4000, .inl mv))] → lv_has ls 6 [(0, .ref h), (1, .int fr), (2, .int to), (3, .int (nI n)), (4, .int (nI l4)), (5, .int (nI p))] → W zp l ze ({ frames := 0, cells := 0, slots := 0, locals := 0 }) zs zm za zb zt zc H locs (0) (0) zQ (F0 zm 6 ls []) := by
    intro fu
    induction fu with
    | zero => intro p l4 ho mv hp hG hno hc H locs ls hfu; exact absurd hfu (Nat.not_lt_zero _)
    | succ fu ih6 =>
      intro p l4 ho mv hp hG hno hc H locs ls hfu6 hH hl
      refine lv_iload zx zy dX9_goes_6 (lv_at hl 5 rfl) ?_
      refine lv_aload_n zx zy dX9_goes_8 rfl (lv_at hl 0 rfl) ?_
      refine fx_get (C := RX9) (T := TX9) (N := 34) hC (fun _ h => List.mem_cons_of_mem _ (List.mem_append_right _ h)) hH 0 rfl rfl 10 (by decide) (by decide +kernel) rfl dX9_goes_9 ?_
      refine lv_icmp_ge (tgt := 72) zx zy dX9_goes_12 (by decide) (fun c12 => ?_) (fun c12 => ?_)
      · skip
        have hl00 : l4 = 0 := cnt_none (fx_le_of c12 (by omega) (by omega)) hno hc
        exact fx_vret hQ hC hr hlk hH dX9_goes_72 (Nat.le_of_ble_eq_true rfl) (Nat.le_of_ble_eq_true rfl) ((ho, mv)) rfl (by rw [← hG, hl00]; exact ⟨rfl, rfl⟩)
      · skip
        have hlt : p < k := fx_lt_of c12 (by omega)
        have hcl := cntP_le (hW ST ho wf) k
        refine lv_iload zx zy dX9_goes_15 (lv_at hl 4 rfl) ?_
        refine lv_if_le (tgt := 72) zx zy dX9_goes_17 (by decide) (fun c17 => ?_) (fun c17 => ?_)
        · skip
          have hl00 : l4 = 0 := fx_zero_of c17 (by omega)
          exact fx_vret hQ hC hr hlk hH dX9_goes_72 (Nat.le_of_ble_eq_true rfl) (Nat.le_of_ble_eq_true rfl) ((ho, mv)) rfl (by rw [← hG, hl00]; exact ⟨rfl, rfl⟩)
        · skip
          have hl0 : 0 < l4 := fx_pos_of c17 (by omega)
          refine lv_aload_n zx zy dX9_goes_20 rfl (lv_at hl 0 rfl) ?_
          refine fx_get (C := RX9) (T := TX9) (N := 34) hC (fun _ h => List.mem_cons_of_mem _ (List.mem_append_right _ h)) hH 0 rfl rfl 11 (by decide) (by decide +kernel) rfl dX9_goes_21 ?_
          refine lv_iload zx zy dX9_goes_24 (lv_at hl 5 rfl) ?_
          refine fx_ild hC hH 1 rfl (vp_in_nI (by omega) (by omega)) dX9_goes_26 ?_
          refine lv_topi (fun v2 ev2 => ?_)
          obtain rfl : v2 = ST p := ev2.trans (congrArg ST (nI_clamp (by omega)))
          refine lv_if_ne (tgt := 66) zx zy dX9_goes_27 (by decide) (fun c27 => ?_) (fun c27 => ?_)
          · skip
            refine lv_iinc (v := nI (p + 1)) (lv' := [(5, .int (nI (p + 1))), (0, .ref h), (1, .int fr), (2, .int to), (3, .int (nI n)), (4, .int (nI l4))]) zx zy dX9_goes_66 hl (k := 5) rfl (nI_1 _) (by decide) rfl (fun ls hl => ?_)
            refine lv_goto (tgt := 6) zx zy dX9_goes_69 (by decide) ?_
            exact ih6 (p + 1) l4 ho mv (by first | assumption | omega) (by first | exact hG | exact (psI_1 hl0 hfe).symm.trans hG) (by first | exact no_pass hno hwt hne hf11 ht11 | exact lt_next hno (hW_f1 c27) | exact lt_next hno (hW_f2 hwf c38)) (by first | exact hc | exact hc2) _ _ _ (by omega) hH (lv_sub hl [1, 2, 3, 4, 5, 0] rfl)
          · skip
            refine lv_aload_n zx zy dX9_goes_30 rfl (lv_at hl 0 rfl) ?_
            refine fx_get (C := RX9) (T := TX9) (N := 34) hC (fun _ h => List.mem_cons_of_mem _ (List.mem_append_right _ h)) hH 0 rfl rfl 12 (by decide) (by decide +kernel) rfl dX9_goes_31 ?_
            refine lv_iload zx zy dX9_goes_34 (lv_at hl 5 rfl) ?_
            refine fx_ild hC hH 2 rfl (vp_in_nI (by omega) (by omega)) dX9_goes_36 ?_
            refine lv_topi (fun v3 ev3 => ?_)
            obtain rfl : v3 = ho p := ev3.trans (congrArg ho (nI_clamp (by omega)))
            refine lv_iload_n zx zy dX9_goes_37 rfl (lv_at hl 1 rfl) ?_
            refine lv_icmp_eq (tgt := 44) zx zy dX9_goes_38 (by decide) (fun c38 => ?_) (fun c38 => ?_)
            · skip
              have hfe := fs_here hlt hno (hW_t hwf c27 c38)
              have hc2 : l4 - 1 ≤ cntP (hW ST (upd ho p to) wf) k := by
                have := cnt_pass hlt (hW_t hwf c27 c38) hwt hne hf11 ht11 wf hf11
                rw [if_pos rfl, if_neg hne] at this
                omega
              refine lv_aload_n zx zy dX9_goes_44 rfl (lv_at hl 0 rfl) ?_
              refine fx_get (C := RX9) (T := TX9) (N := 34) hC (fun _ h => List.mem_cons_of_mem _ (List.mem_append_right _ h)) hH 0 rfl rfl 12 (by decide) (by decide +kernel) rfl dX9_goes_45 ?_
              refine lv_iload zx zy dX9_goes_48 (lv_at hl 5 rfl) ?_
              refine lv_iload_n zx zy dX9_goes_50 rfl (lv_at hl 2 rfl) ?_
              refine fx_ist (ws2 := [(h, .inr (9, [.int (nI now), .int (nI wk), .ref zcoins, .ref zdebt, .ref zfines, .ref zreading, .int (nI rk), .ref zruleYear, .ref zruleWhat, .ref zruleShare, .int (nI k), .ref zstate, .ref zholder, .ref zyearOf, .ref zusedIn, .ref zprojectOf, .ref zwent, .int ii, .int (nI bk), .ref zbidWorks, .ref zbidMany, .ref zbidPrice, .int ac, .int (nI pj), .ref zisFalse, .ref zcutMany, .ref ztonnes, .ref zcosts, .ref zgiven, .ref zcutOff, .ref zgot, .ref zcutsOf, .int sm, .int mg])), (zstate, .inl (cI, 4000, .inl ST)), (zholder, .inl (cI, 4000, .inl (upd ho (nI p).toNatClampNeg to))), (zwent, .inl (cI, 4000, .inl mv))]) hC hH 2 rfl (vp_in_nI (by omega) (by omega)) rfl dX9_goes_51 (fun H locs hH => ?_)
              rw [show (upd ho (nI p).toNatClampNeg to : Nat → Int32) = upd ho p to from (by rw [nI_clamp (by omega)])] at hH
              refine lv_aload_n zx zy dX9_goes_52 rfl (lv_at hl 0 rfl) ?_
              refine fx_get (C := RX9) (T := TX9) (N := 34) hC (fun _ h => List.mem_cons_of_mem _ (List.mem_append_right _ h)) hH 0 rfl rfl 16 (by decide) (by decide +kernel) rfl dX9_goes_53 ?_
              refine lv_iload zx zy dX9_goes_56 (lv_at hl 5 rfl) ?_
              refine lv_dup2_11 zx zy dX9_goes_58 rfl rfl ?_
              refine fx_ild hC hH 3 rfl (vp_in_nI (by omega) (by omega)) dX9_goes_59 ?_
              refine lv_topi (fun v4 ev4 => ?_)
              obtain rfl : v4 = mv p := ev4.trans (congrArg mv (nI_clamp (by omega)))
              refine lv_iconst (v := 1) zx zy dX9_goes_60 (by decide) ?_
              refine lv_iadd zx zy dX9_goes_61 ?_
              refine fx_ist (ws2 := [(h, .inr (9, [.int (nI now), .int (nI wk), .ref zcoins, .ref zdebt, .ref zfines, .ref zreading, .int (nI rk), .ref zruleYear, .ref zruleWhat, .ref zruleShare, .int (nI k), .ref zstate, .ref zholder, .ref zyearOf, .ref zusedIn, .ref zprojectOf, .ref zwent, .int ii, .int (nI bk), .ref zbidWorks, .ref zbidMany, .ref zbidPrice, .int ac, .int (nI pj), .ref zisFalse, .ref zcutMany, .ref ztonnes, .ref zcosts, .ref zgiven, .ref zcutOff, .ref zgot, .ref zcutsOf, .int sm, .int mg])), (zstate, .inl (cI, 4000, .inl ST)), (zholder, .inl (cI, 4000, .inl (upd ho p to))), (zwent, .inl (cI, 4000, .inl (upd mv (nI p).toNatClampNeg ((mv p) + 1))))]) hC hH 3 rfl (vp_in_nI (by omega) (by omega)) rfl dX9_goes_62 (fun H locs hH => ?_)
              rw [show (upd mv (nI p).toNatClampNeg ((mv p) + 1) : Nat → Int32) = upd mv p ((mv p) + 1) from (by rw [nI_clamp (by omega)])] at hH
              refine lv_iinc (v := nI (l4 - 1)) (lv' := [(4, .int (nI (l4 - 1))), (0, .ref h), (1, .int fr), (2, .int to), (3, .int (nI n)), (5, .int (nI p))]) zx zy dX9_goes_63 hl (k := 4) rfl (sb_m1 hl0) (by decide) rfl (fun ls hl => ?_)
              refine lv_iinc (v := nI (p + 1)) (lv' := [(5, .int (nI (p + 1))), (4, .int (nI (l4 - 1))), (0, .ref h), (1, .int fr), (2, .int to), (3, .int (nI n))]) zx zy dX9_goes_66 hl (k := 5) rfl (nI_1 _) (by decide) rfl (fun ls hl => ?_)
              refine lv_goto (tgt := 6) zx zy dX9_goes_69 (by decide) ?_
              exact ih6 (p + 1) (l4 - 1) (upd ho p to) (upd mv p ((mv p) + 1)) (by first | assumption | omega) (by first | exact hG | exact (psI_1 hl0 hfe).symm.trans hG) (by first | exact no_pass hno hwt hne hf11 ht11 | exact lt_next hno (hW_f1 c27) | exact lt_next hno (hW_f2 hwf c38)) (by first | exact hc | exact hc2) _ _ _ (by omega) hH (lv_sub hl [2, 3, 4, 5, 1, 0] rfl)
            · skip
              refine lv_goto (tgt := 66) zx zy dX9_goes_41 (by decide) ?_
              refine lv_iinc (v := nI (p + 1)) (lv' := [(5, .int (nI (p + 1))), (0, .ref h), (1, .int fr), (2, .int to), (3, .int (nI n)), (4, .int (nI l4))]) zx zy dX9_goes_66 hl (k := 5) rfl (nI_1 _) (by decide) rfl (fun ls hl => ?_)
              refine lv_goto (tgt := 6) zx zy dX9_goes_69 (by decide) ?_
              exact ih6 (p + 1) l4 ho mv (by first | assumption | omega) (by first | exact hG | exact (psI_1 hl0 hfe).symm.trans hG) (by first | exact no_pass hno hwt hne hf11 ht11 | exact lt_next hno (hW_f1 c27) | exact lt_next hno (hW_f2 hwf c38)) (by first | exact hc | exact hc2) _ _ _ (by omega) hH (lv_sub hl [1, 2, 3, 4, 5, 0] rfl)
  exact L6 _ 0 n HO WE (by first | assumption | omega) (rfl) (fun j h => absurd h (Nat.not_lt_zero j)) (hcnt) _ _ _ (Nat.lt_succ_self _) hH (lv_sub hl [2, 3, 4, 5, 1, 0] rfl)
set_option maxHeartbeats 4000000 in
set_option maxRecDepth 100000 in
theorem k_X9_ends_1 (l : Launch) (D : va_G) (cI cZ : ClassId) (h : Nat) (zcoins : Nat) (zdebt : Nat) (zfines : Nat) (zreading : Nat) (zruleYear : Nat) (zruleWhat : Nat) (zruleShare : Nat) (zstate : Nat) (zholder : Nat) (zyearOf : Nat) (zusedIn : Nat) (zprojectOf : Nat) (zwent : Nat) (zbidWorks : Nat) (zbidMany : Nat) (zbidPrice : Nat) (zisFalse : Nat) (zcutMany : Nat) (ztonnes : Nat) (zcosts : Nat) (zgiven : Nat) (zcutOff : Nat) (zgot : Nat) (zcutsOf : Nat) (now : Nat) (wk : Nat) (rk : Nat) (k : Nat) (ii : Int32) (bk : Nat) (ac : Int32) (pj : Nat) (sm : Int32) (mg : Int32) (ST : Nat → Int32) (HO : Nat → Int32) (UI : Nat → Int32) (who : Int32) (wi : Nat) (hwi : who + 1 = nI wi) (hw11 : wi < 11) (n : Nat) (hk4 : k ≤ 4000) (hcnt : n ≤ cntP (hW ST HO wi) k) : fx_CV l D cI cZ yX9_ends wsX9_ends ({ frames := 0, cells := 0, slots := 0, locals := 0 }) [.ref h, .int who, .int (nI n), .int 1] [(h, .inr (9, [.int (nI now), .int (nI wk), .ref zcoins, .ref zdebt, .ref zfines, .ref zreading, .int (nI rk), .ref zruleYear, .ref zruleWhat, .ref zruleShare, .int (nI k), .ref zstate, .ref zholder, .ref zyearOf, .ref zusedIn, .ref zprojectOf, .ref zwent, .int ii, .int (nI bk), .ref zbidWorks, .ref zbidMany, .ref zbidPrice, .int ac, .int (nI pj), .ref zisFalse, .ref zcutMany, .ref ztonnes, .ref zcosts, .ref zgiven, .ref zcutOff, .ref zgot, .ref zcutsOf, .int sm, .int mg])), (zstate, .inl (cI, 4000, .inl ST)), (zholder, .inl (cI, 4000, .inl HO)), (zusedIn, .inl (cI, 4000, .inl UI))] (fun (u : (Nat → Int32) × (Nat → Int32)) => [(h, .inr (9, [.int (nI now), .int (nI wk), .ref zcoins, .ref zdebt, .ref zfines, .ref zreading, .int (nI rk), .ref zruleYear, .ref zruleWhat, .ref zruleShare, .int (nI k), .ref zstate, .ref zholder, .ref zyearOf, .ref zusedIn, .ref zprojectOf, .ref zwent, .int ii, .int (nI bk), .ref zbidWorks, .ref zbidMany, .ref zbidPrice, .int ac, .int (nI pj), .ref zisFalse, .ref zcutMany, .ref ztonnes, .ref zcosts, .ref zgiven, .ref zcutOff, .ref zgot, .ref zcutsOf, .int sm, .int mg])), (zstate, .inl (cI, 4000, .inl u.1)), (zholder, .inl (cI, 4000, .inl HO)), (zusedIn, .inl (cI, 4000, .inl u.2))]) (fun (u : (Nat → Int32) × (Nat → Int32)) => u.1 = (usI HO k wi (nI now) n ST UI).1 ∧ u.2 = (usI HO k wi (nI now) n ST UI).2) := by
  refine fx_CV.of (ws' := (wsX9_ends).tail) cX9_ends 6 (by decide) rfl (Nat.le_of_ble_eq_true rfl) ?_
  intro zp ze zs zm za zb zt zc zA ls zQ hQ hC hr hlk hnm hA hH hl
  have zx := hC.1.1
  have zy := hC.1.2.1
  have hl : lv_has ls 6 [(0, .ref h), (1, .int who), (2, .int (nI n)), (3, .int 1)] := hl
  refine lv_iload_n zx zy dX9_ends_0 rfl (lv_at hl 2 rfl) ?_
  refine lv_istore (lv' := [(4, .int (nI n)), (0, .ref h), (1, .int who), (2, .int (nI n)), (3, .int 1)]) zx zy dX9_ends_1 hl (by decide) rfl (fun ls hl => ?_)
  refine lv_iconst (v := 0) zx zy dX9_ends_3 (by decide) ?_
  refine lv_topi (fun v1 ev1 => ?_)
  obtain rfl : v1 = nI 0 := ev1.trans (rfl)
  refine lv_istore (lv' := [(5, .int (nI 0)), (4, .int (nI n)), (0, .ref h), (1, .int who), (2, .int (nI n)), (3, .int 1)]) zx zy dX9_ends_4 hl (by decide) rfl (fun ls hl => ?_)
  have L6 : ∀ (fu : Nat) (p : Nat) (l4 : Nat) (st : Nat → Int32) (ui : Nat → Int32) (hp : p ≤ k) (hG : usI HO k wi (nI now) l4 st ui = usI HO k wi (nI now) n ST UI) (hno : ∀ j, j < p → hW st HO wi j = false) (hc : l4 ≤ cntP (hW st HO wi) k) (H : Heap) (locs : List Loc) (ls : Array Slot), k - p < fu → fx_H zA zs.heap H locs D [(h, .inr (9, [.int (nI now), .int (nI wk), .ref zcoins, .ref zdebt, .ref zfines, .ref zreading, .int (nI rk), .ref zruleYear, .ref zruleWhat, .ref zruleShare, .int (nI k), .ref zstate, .ref zholder, .ref zyearOf, .ref zusedIn, .ref zprojectOf, .ref zwent, .int ii, .int (nI bk), .ref zbidWorks, .ref zbidMany, .ref zbidPrice, .int ac, .int (nI pj), .ref zisFalse, .ref zcutMany, .ref ztonnes, .ref zcosts, .ref zgiven, .ref zcutOff, .ref zgot, .ref zcutsOf, .int sm, .int mg])), (zstate, .inl (cI, 4000, .inl st)), (zholder, .inl (cI, 4000, .inl HO)), (zusedIn, .inl (cI, 4000, .inl ui))] → lv_has ls 6 [(0, .ref h), (1, .int who), (2, .int (nI n)), (3, .int 1), (4, .int (nI l4)), (5, .int (nI p))] → W zp l ze ({ frames := 0, cells := 0, slots := 0, locals := 0 }) zs zm za zb zt zc H locs (0) (0) zQ (F0 zm 6 ls []) := by
    intro fu
    induction fu with
    | zero => intro p l4 st ui hp hG hno hc H locs ls hfu; exact absurd hfu (Nat.not_lt_zero _)
    | succ fu ih6 =>
      intro p l4 st ui hp hG hno hc H locs ls hfu6 hH hl
      refine lv_iload zx zy dX9_ends_6 (lv_at hl 5 rfl) ?_
      refine lv_aload_n zx zy dX9_ends_8 rfl (lv_at hl 0 rfl) ?_
      refine fx_get (C := RX9) (T := TX9) (N := 34) hC (fun _ h => List.mem_cons_of_mem _ (List.mem_append_right _ h)) hH 0 rfl rfl 10 (by decide) (by decide +kernel) rfl dX9_ends_9 ?_
      refine lv_icmp_ge (tgt := 77) zx zy dX9_ends_12 (by decide) (fun c12 => ?_) (fun c12 => ?_)
      · skip
        have hl00 : l4 = 0 := cnt_none (fx_le_of c12 (by omega) (by omega)) hno hc
        exact fx_vret hQ hC hr hlk hH dX9_ends_77 (Nat.le_of_ble_eq_true rfl) (Nat.le_of_ble_eq_true rfl) ((st, ui)) rfl (by rw [← hG, hl00]; exact ⟨rfl, rfl⟩)
      · skip
        have hlt : p < k := fx_lt_of c12 (by omega)
        have hcl := cntP_le (hW st HO wi) k
        refine lv_iload zx zy dX9_ends_15 (lv_at hl 4 rfl) ?_
        refine lv_if_le (tgt := 77) zx zy dX9_ends_17 (by decide) (fun c17 => ?_) (fun c17 => ?_)
        · skip
          have hl00 : l4 = 0 := fx_zero_of c17 (by omega)
          exact fx_vret hQ hC hr hlk hH dX9_ends_77 (Nat.le_of_ble_eq_true rfl) (Nat.le_of_ble_eq_true rfl) ((st, ui)) rfl (by rw [← hG, hl00]; exact ⟨rfl, rfl⟩)
        · skip
          have hl0 : 0 < l4 := fx_pos_of c17 (by omega)
          refine lv_aload_n zx zy dX9_ends_20 rfl (lv_at hl 0 rfl) ?_
          refine fx_get (C := RX9) (T := TX9) (N := 34) hC (fun _ h => List.mem_cons_of_mem _ (List.mem_append_right _ h)) hH 0 rfl rfl 11 (by decide) (by decide +kernel) rfl dX9_ends_21 ?_
          refine lv_iload zx zy dX9_ends_24 (lv_at hl 5 rfl) ?_
          refine fx_ild hC hH 1 rfl (vp_in_nI (by omega) (by omega)) dX9_ends_26 ?_
          refine lv_topi (fun v2 ev2 => ?_)
          obtain rfl : v2 = st p := ev2.trans (congrArg st (nI_clamp (by omega)))
          refine lv_if_ne (tgt := 71) zx zy dX9_ends_27 (by decide) (fun c27 => ?_) (fun c27 => ?_)
          · skip
            refine lv_iinc (v := nI (p + 1)) (lv' := [(5, .int (nI (p + 1))), (0, .ref h), (1, .int who), (2, .int (nI n)), (3, .int 1), (4, .int (nI l4))]) zx zy dX9_ends_71 hl (k := 5) rfl (nI_1 _) (by decide) rfl (fun ls hl => ?_)
            refine lv_goto (tgt := 6) zx zy dX9_ends_74 (by decide) ?_
            exact ih6 (p + 1) l4 st ui (by first | assumption | omega) (by first | exact hG | exact (usI_1 hl0 hfe).symm.trans hG) (by first | exact no_gone hno (by decide) | exact lt_next hno (hW_f1 c27) | exact lt_next hno (hW_f2 hwi c38)) (by first | exact hc | exact hc2) _ _ _ (by omega) hH (lv_sub hl [1, 2, 3, 4, 5, 0] rfl)
          · skip
            refine lv_aload_n zx zy dX9_ends_30 rfl (lv_at hl 0 rfl) ?_
            refine fx_get (C := RX9) (T := TX9) (N := 34) hC (fun _ h => List.mem_cons_of_mem _ (List.mem_append_right _ h)) hH 0 rfl rfl 12 (by decide) (by decide +kernel) rfl dX9_ends_31 ?_
            refine lv_iload zx zy dX9_ends_34 (lv_at hl 5 rfl) ?_
            refine fx_ild hC hH 2 rfl (vp_in_nI (by omega) (by omega)) dX9_ends_36 ?_
            refine lv_topi (fun v3 ev3 => ?_)
            obtain rfl : v3 = HO p := ev3.trans (congrArg HO (nI_clamp (by omega)))
            refine lv_iload_n zx zy dX9_ends_37 rfl (lv_at hl 1 rfl) ?_
            refine lv_icmp_eq (tgt := 44) zx zy dX9_ends_38 (by decide) (fun c38 => ?_) (fun c38 => ?_)
            · skip
              have hfe := fs_here hlt hno (hW_t hwi c27 c38)
              have hc2 : l4 - 1 ≤ cntP (hW (upd st p 1) HO wi) k := by
                have := cnt_gone (x := 1) hlt (hW_t hwi c27 c38) (by decide) hw11 wi hw11
                rw [if_pos rfl] at this
                omega
              refine lv_aload_n zx zy dX9_ends_44 rfl (lv_at hl 0 rfl) ?_
              refine fx_get (C := RX9) (T := TX9) (N := 34) hC (fun _ h => List.mem_cons_of_mem _ (List.mem_append_right _ h)) hH 0 rfl rfl 11 (by decide) (by decide +kernel) rfl dX9_ends_45 ?_
              refine lv_iload zx zy dX9_ends_48 (lv_at hl 5 rfl) ?_
              refine lv_iload_n zx zy dX9_ends_50 rfl (lv_at hl 3 rfl) ?_
              refine fx_ist (ws2 := [(h, .inr (9, [.int (nI now), .int (nI wk), .ref zcoins, .ref zdebt, .ref zfines, .ref zreading, .int (nI rk), .ref zruleYear, .ref zruleWhat, .ref zruleShare, .int (nI k), .ref zstate, .ref zholder, .ref zyearOf, .ref zusedIn, .ref zprojectOf, .ref zwent, .int ii, .int (nI bk), .ref zbidWorks, .ref zbidMany, .ref zbidPrice, .int ac, .int (nI pj), .ref zisFalse, .ref zcutMany, .ref ztonnes, .ref zcosts, .ref zgiven, .ref zcutOff, .ref zgot, .ref zcutsOf, .int sm, .int mg])), (zstate, .inl (cI, 4000, .inl (upd st (nI p).toNatClampNeg 1))), (zholder, .inl (cI, 4000, .inl HO)), (zusedIn, .inl (cI, 4000, .inl ui))]) hC hH 1 rfl (vp_in_nI (by omega) (by omega)) rfl dX9_ends_51 (fun H locs hH => ?_)
              rw [show (upd st (nI p).toNatClampNeg 1 : Nat → Int32) = upd st p 1 from (by rw [nI_clamp (by omega)])] at hH
              refine lv_iload_n zx zy dX9_ends_52 rfl (lv_at hl 3 rfl) ?_
              refine lv_iconst (v := 1) zx zy dX9_ends_53 (by decide) ?_
              refine lv_icmp_ne (tgt := 68) zx zy dX9_ends_54 (by decide) (fun c54 => ?_) (fun c54 => ?_)
              · exact absurd c54 (by decide)
              · skip
                refine lv_aload_n zx zy dX9_ends_57 rfl (lv_at hl 0 rfl) ?_
                refine fx_get (C := RX9) (T := TX9) (N := 34) hC (fun _ h => List.mem_cons_of_mem _ (List.mem_append_right _ h)) hH 0 rfl rfl 14 (by decide) (by decide +kernel) rfl dX9_ends_58 ?_
                refine lv_iload zx zy dX9_ends_61 (lv_at hl 5 rfl) ?_
                refine lv_aload_n zx zy dX9_ends_63 rfl (lv_at hl 0 rfl) ?_
                refine fx_get (C := RX9) (T := TX9) (N := 34) hC (fun _ h => List.mem_cons_of_mem _ (List.mem_append_right _ h)) hH 0 rfl rfl 0 (by decide) (by decide +kernel) rfl dX9_ends_64 ?_
                refine fx_ist (ws2 := [(h, .inr (9, [.int (nI now), .int (nI wk), .ref zcoins, .ref zdebt, .ref zfines, .ref zreading, .int (nI rk), .ref zruleYear, .ref zruleWhat, .ref zruleShare, .int (nI k), .ref zstate, .ref zholder, .ref zyearOf, .ref zusedIn, .ref zprojectOf, .ref zwent, .int ii, .int (nI bk), .ref zbidWorks, .ref zbidMany, .ref zbidPrice, .int ac, .int (nI pj), .ref zisFalse, .ref zcutMany, .ref ztonnes, .ref zcosts, .ref zgiven, .ref zcutOff, .ref zgot, .ref zcutsOf, .int sm, .int mg])), (zstate, .inl (cI, 4000, .inl (upd st p 1))), (zholder, .inl (cI, 4000, .inl HO)), (zusedIn, .inl (cI, 4000, .inl (upd ui (nI p).toNatClampNeg (nI now))))]) hC hH 3 rfl (vp_in_nI (by omega) (by omega)) rfl dX9_ends_67 (fun H locs hH => ?_)
                rw [show (upd ui (nI p).toNatClampNeg (nI now) : Nat → Int32) = upd ui p (nI now) from (by rw [nI_clamp (by omega)])] at hH
                refine lv_iinc (v := nI (l4 - 1)) (lv' := [(4, .int (nI (l4 - 1))), (0, .ref h), (1, .int who), (2, .int (nI n)), (3, .int 1), (5, .int (nI p))]) zx zy dX9_ends_68 hl (k := 4) rfl (sb_m1 hl0) (by decide) rfl (fun ls hl => ?_)
                refine lv_iinc (v := nI (p + 1)) (lv' := [(5, .int (nI (p + 1))), (4, .int (nI (l4 - 1))), (0, .ref h), (1, .int who), (2, .int (nI n)), (3, .int 1)]) zx zy dX9_ends_71 hl (k := 5) rfl (nI_1 _) (by decide) rfl (fun ls hl => ?_)
                refine lv_goto (tgt := 6) zx zy dX9_ends_74 (by decide) ?_
                exact ih6 (p + 1) (l4 - 1) (upd st p 1) (upd ui p (nI now)) (by first | assumption | omega) (by first | exact hG | exact (usI_1 hl0 hfe).symm.trans hG) (by first | exact no_gone hno (by decide) | exact lt_next hno (hW_f1 c27) | exact lt_next hno (hW_f2 hwi c38)) (by first | exact hc | exact hc2) _ _ _ (by omega) hH (lv_sub hl [2, 3, 4, 5, 1, 0] rfl)
            · skip
              refine lv_goto (tgt := 71) zx zy dX9_ends_41 (by decide) ?_
              refine lv_iinc (v := nI (p + 1)) (lv' := [(5, .int (nI (p + 1))), (0, .ref h), (1, .int who), (2, .int (nI n)), (3, .int 1), (4, .int (nI l4))]) zx zy dX9_ends_71 hl (k := 5) rfl (nI_1 _) (by decide) rfl (fun ls hl => ?_)
              refine lv_goto (tgt := 6) zx zy dX9_ends_74 (by decide) ?_
              exact ih6 (p + 1) l4 st ui (by first | assumption | omega) (by first | exact hG | exact (usI_1 hl0 hfe).symm.trans hG) (by first | exact no_gone hno (by decide) | exact lt_next hno (hW_f1 c27) | exact lt_next hno (hW_f2 hwi c38)) (by first | exact hc | exact hc2) _ _ _ (by omega) hH (lv_sub hl [1, 2, 3, 4, 5, 0] rfl)
  exact L6 _ 0 n ST UI (by first | assumption | omega) (rfl) (fun j h => absurd h (Nat.not_lt_zero j)) (hcnt) _ _ _ (Nat.lt_succ_self _) hH (lv_sub hl [2, 3, 4, 5, 1, 0] rfl)
set_option maxHeartbeats 4000000 in
set_option maxRecDepth 100000 in
theorem k_X9_ends_2 (l : Launch) (D : va_G) (cI cZ : ClassId) (h : Nat) (zcoins : Nat) (zdebt : Nat) (zfines : Nat) (zreading : Nat) (zruleYear : Nat) (zruleWhat : Nat) (zruleShare : Nat) (zstate : Nat) (zholder : Nat) (zyearOf : Nat) (zusedIn : Nat) (zprojectOf : Nat) (zwent : Nat) (zbidWorks : Nat) (zbidMany : Nat) (zbidPrice : Nat) (zisFalse : Nat) (zcutMany : Nat) (ztonnes : Nat) (zcosts : Nat) (zgiven : Nat) (zcutOff : Nat) (zgot : Nat) (zcutsOf : Nat) (now : Nat) (wk : Nat) (rk : Nat) (k : Nat) (ii : Int32) (bk : Nat) (ac : Int32) (pj : Nat) (sm : Int32) (mg : Int32) (ST : Nat → Int32) (HO : Nat → Int32) (who : Int32) (wi : Nat) (hwi : who + 1 = nI wi) (hw11 : wi < 11) (n : Nat) (hk4 : k ≤ 4000) (hcnt : n ≤ cntP (hW ST HO wi) k) : fx_CV l D cI cZ yX9_ends wsX9_ends ({ frames := 0, cells := 0, slots := 0, locals := 0 }) [.ref h, .int who, .int (nI n), .int 2] [(h, .inr (9, [.int (nI now), .int (nI wk), .ref zcoins, .ref zdebt, .ref zfines, .ref zreading, .int (nI rk), .ref zruleYear, .ref zruleWhat, .ref zruleShare, .int (nI k), .ref zstate, .ref zholder, .ref zyearOf, .ref zusedIn, .ref zprojectOf, .ref zwent, .int ii, .int (nI bk), .ref zbidWorks, .ref zbidMany, .ref zbidPrice, .int ac, .int (nI pj), .ref zisFalse, .ref zcutMany, .ref ztonnes, .ref zcosts, .ref zgiven, .ref zcutOff, .ref zgot, .ref zcutsOf, .int sm, .int mg])), (zstate, .inl (cI, 4000, .inl ST)), (zholder, .inl (cI, 4000, .inl HO))] (fun (u : (Nat → Int32)) => [(h, .inr (9, [.int (nI now), .int (nI wk), .ref zcoins, .ref zdebt, .ref zfines, .ref zreading, .int (nI rk), .ref zruleYear, .ref zruleWhat, .ref zruleShare, .int (nI k), .ref zstate, .ref zholder, .ref zyearOf, .ref zusedIn, .ref zprojectOf, .ref zwent, .int ii, .int (nI bk), .ref zbidWorks, .ref zbidMany, .ref zbidPrice, .int ac, .int (nI pj), .ref zisFalse, .ref zcutMany, .ref ztonnes, .ref zcosts, .ref zgiven, .ref zcutOff, .ref zgot, .ref zcutsOf, .int sm, .int mg])), (zstate, .inl (cI, 4000, .inl u)), (zholder, .inl (cI, 4000, .inl HO))]) (fun (u : (Nat → Int32)) => u = skI HO k wi n ST) := by
  refine fx_CV.of (ws' := (wsX9_ends).tail) cX9_ends 6 (by decide) rfl (Nat.le_of_ble_eq_true rfl) ?_
  intro zp ze zs zm za zb zt zc zA ls zQ hQ hC hr hlk hnm hA hH hl
  have zx := hC.1.1
  have zy := hC.1.2.1
  have hl : lv_has ls 6 [(0, .ref h), (1, .int who), (2, .int (nI n)), (3, .int 2)] := hl
  refine lv_iload_n zx zy dX9_ends_0 rfl (lv_at hl 2 rfl) ?_
  refine lv_istore (lv' := [(4, .int (nI n)), (0, .ref h), (1, .int who), (2, .int (nI n)), (3, .int 2)]) zx zy dX9_ends_1 hl (by decide) rfl (fun ls hl => ?_)
  refine lv_iconst (v := 0) zx zy dX9_ends_3 (by decide) ?_
  refine lv_topi (fun v1 ev1 => ?_)
  obtain rfl : v1 = nI 0 := ev1.trans (rfl)
  refine lv_istore (lv' := [(5, .int (nI 0)), (4, .int (nI n)), (0, .ref h), (1, .int who), (2, .int (nI n)), (3, .int 2)]) zx zy dX9_ends_4 hl (by decide) rfl (fun ls hl => ?_)
  have L6 : ∀ (fu : Nat) (p : Nat) (l4 : Nat) (st : Nat → Int32) (hp : p ≤ k) (hG : skI HO k wi l4 st = skI HO k wi n ST) (hno : ∀ j, j < p → hW st HO wi j = false) (hc : l4 ≤ cntP (hW st HO wi) k) (H : Heap) (locs : List Loc) (ls : Array Slot), k - p < fu → fx_H zA zs.heap H locs D [(h, .inr (9, [.int (nI now), .int (nI wk), .ref zcoins, .ref zdebt, .ref zfines, .ref zreading, .int (nI rk), .ref zruleYear, .ref zruleWhat, .ref zruleShare, .int (nI k), .ref zstate, .ref zholder, .ref zyearOf, .ref zusedIn, .ref zprojectOf, .ref zwent, .int ii, .int (nI bk), .ref zbidWorks, .ref zbidMany, .ref zbidPrice, .int ac, .int (nI pj), .ref zisFalse, .ref zcutMany, .ref ztonnes, .ref zcosts, .ref zgiven, .ref zcutOff, .ref zgot, .ref zcutsOf, .int sm, .int mg])), (zstate, .inl (cI, 4000, .inl st)), (zholder, .inl (cI, 4000, .inl HO))] → lv_has ls 6 [(0, .ref h), (1, .int who), (2, .int (nI n)), (3, .int 2), (4, .int (nI l4)), (5, .int (nI p))] → W zp l ze ({ frames := 0, cells := 0, slots := 0, locals := 0 }) zs zm za zb zt zc H locs (0) (0) zQ (F0 zm 6 ls []) := by
    intro fu
    induction fu with
    | zero => intro p l4 st hp hG hno hc H locs ls hfu; exact absurd hfu (Nat.not_lt_zero _)
    | succ fu ih6 =>
      intro p l4 st hp hG hno hc H locs ls hfu6 hH hl
      refine lv_iload zx zy dX9_ends_6 (lv_at hl 5 rfl) ?_
      refine lv_aload_n zx zy dX9_ends_8 rfl (lv_at hl 0 rfl) ?_
      refine fx_get (C := RX9) (T := TX9) (N := 34) hC (fun _ h => List.mem_cons_of_mem _ (List.mem_append_right _ h)) hH 0 rfl rfl 10 (by decide) (by decide +kernel) rfl dX9_ends_9 ?_
      refine lv_icmp_ge (tgt := 77) zx zy dX9_ends_12 (by decide) (fun c12 => ?_) (fun c12 => ?_)
      · skip
        have hl00 : l4 = 0 := cnt_none (fx_le_of c12 (by omega) (by omega)) hno hc
        exact fx_vret hQ hC hr hlk hH dX9_ends_77 (Nat.le_of_ble_eq_true rfl) (Nat.le_of_ble_eq_true rfl) (st) rfl (by rw [← hG, hl00]; rfl)
      · skip
        have hlt : p < k := fx_lt_of c12 (by omega)
        have hcl := cntP_le (hW st HO wi) k
        refine lv_iload zx zy dX9_ends_15 (lv_at hl 4 rfl) ?_
        refine lv_if_le (tgt := 77) zx zy dX9_ends_17 (by decide) (fun c17 => ?_) (fun c17 => ?_)
        · skip
          have hl00 : l4 = 0 := fx_zero_of c17 (by omega)
          exact fx_vret hQ hC hr hlk hH dX9_ends_77 (Nat.le_of_ble_eq_true rfl) (Nat.le_of_ble_eq_true rfl) (st) rfl (by rw [← hG, hl00]; rfl)
        · skip
          have hl0 : 0 < l4 := fx_pos_of c17 (by omega)
          refine lv_aload_n zx zy dX9_ends_20 rfl (lv_at hl 0 rfl) ?_
          refine fx_get (C := RX9) (T := TX9) (N := 34) hC (fun _ h => List.mem_cons_of_mem _ (List.mem_append_right _ h)) hH 0 rfl rfl 11 (by decide) (by decide +kernel) rfl dX9_ends_21 ?_
          refine lv_iload zx zy dX9_ends_24 (lv_at hl 5 rfl) ?_
          refine fx_ild hC hH 1 rfl (vp_in_nI (by omega) (by omega)) dX9_ends_26 ?_
          refine lv_topi (fun v2 ev2 => ?_)
          obtain rfl : v2 = st p := ev2.trans (congrArg st (nI_clamp (by omega)))
          refine lv_if_ne (tgt := 71) zx zy dX9_ends_27 (by decide) (fun c27 => ?_) (fun c27 => ?_)
          · skip
            refine lv_iinc (v := nI (p + 1)) (lv' := [(5, .int (nI (p + 1))), (0, .ref h), (1, .int who), (2, .int (nI n)), (3, .int 2), (4, .int (nI l4))]) zx zy dX9_ends_71 hl (k := 5) rfl (nI_1 _) (by decide) rfl (fun ls hl => ?_)
            refine lv_goto (tgt := 6) zx zy dX9_ends_74 (by decide) ?_
            exact ih6 (p + 1) l4 st (by first | assumption | omega) (by first | exact hG | exact (skI_1 hl0 hfe).symm.trans hG) (by first | exact no_gone hno (by decide) | exact lt_next hno (hW_f1 c27) | exact lt_next hno (hW_f2 hwi c38)) (by first | exact hc | exact hc2) _ _ _ (by omega) hH (lv_sub hl [1, 2, 3, 4, 5, 0] rfl)
          · skip
            refine lv_aload_n zx zy dX9_ends_30 rfl (lv_at hl 0 rfl) ?_
            refine fx_get (C := RX9) (T := TX9) (N := 34) hC (fun _ h => List.mem_cons_of_mem _ (List.mem_append_right _ h)) hH 0 rfl rfl 12 (by decide) (by decide +kernel) rfl dX9_ends_31 ?_
            refine lv_iload zx zy dX9_ends_34 (lv_at hl 5 rfl) ?_
            refine fx_ild hC hH 2 rfl (vp_in_nI (by omega) (by omega)) dX9_ends_36 ?_
            refine lv_topi (fun v3 ev3 => ?_)
            obtain rfl : v3 = HO p := ev3.trans (congrArg HO (nI_clamp (by omega)))
            refine lv_iload_n zx zy dX9_ends_37 rfl (lv_at hl 1 rfl) ?_
            refine lv_icmp_eq (tgt := 44) zx zy dX9_ends_38 (by decide) (fun c38 => ?_) (fun c38 => ?_)
            · skip
              have hfe := fs_here hlt hno (hW_t hwi c27 c38)
              have hc2 : l4 - 1 ≤ cntP (hW (upd st p 2) HO wi) k := by
                have := cnt_gone (x := 2) hlt (hW_t hwi c27 c38) (by decide) hw11 wi hw11
                rw [if_pos rfl] at this
                omega
              refine lv_aload_n zx zy dX9_ends_44 rfl (lv_at hl 0 rfl) ?_
              refine fx_get (C := RX9) (T := TX9) (N := 34) hC (fun _ h => List.mem_cons_of_mem _ (List.mem_append_right _ h)) hH 0 rfl rfl 11 (by decide) (by decide +kernel) rfl dX9_ends_45 ?_
              refine lv_iload zx zy dX9_ends_48 (lv_at hl 5 rfl) ?_
              refine lv_iload_n zx zy dX9_ends_50 rfl (lv_at hl 3 rfl) ?_
              refine fx_ist (ws2 := [(h, .inr (9, [.int (nI now), .int (nI wk), .ref zcoins, .ref zdebt, .ref zfines, .ref zreading, .int (nI rk), .ref zruleYear, .ref zruleWhat, .ref zruleShare, .int (nI k), .ref zstate, .ref zholder, .ref zyearOf, .ref zusedIn, .ref zprojectOf, .ref zwent, .int ii, .int (nI bk), .ref zbidWorks, .ref zbidMany, .ref zbidPrice, .int ac, .int (nI pj), .ref zisFalse, .ref zcutMany, .ref ztonnes, .ref zcosts, .ref zgiven, .ref zcutOff, .ref zgot, .ref zcutsOf, .int sm, .int mg])), (zstate, .inl (cI, 4000, .inl (upd st (nI p).toNatClampNeg 2))), (zholder, .inl (cI, 4000, .inl HO))]) hC hH 1 rfl (vp_in_nI (by omega) (by omega)) rfl dX9_ends_51 (fun H locs hH => ?_)
              rw [show (upd st (nI p).toNatClampNeg 2 : Nat → Int32) = upd st p 2 from (by rw [nI_clamp (by omega)])] at hH
              refine lv_iload_n zx zy dX9_ends_52 rfl (lv_at hl 3 rfl) ?_
              refine lv_iconst (v := 1) zx zy dX9_ends_53 (by decide) ?_
              refine lv_icmp_ne (tgt := 68) zx zy dX9_ends_54 (by decide) (fun c54 => ?_) (fun c54 => ?_)
              · skip
                refine lv_iinc (v := nI (l4 - 1)) (lv' := [(4, .int (nI (l4 - 1))), (0, .ref h), (1, .int who), (2, .int (nI n)), (3, .int 2), (5, .int (nI p))]) zx zy dX9_ends_68 hl (k := 4) rfl (sb_m1 hl0) (by decide) rfl (fun ls hl => ?_)
                refine lv_iinc (v := nI (p + 1)) (lv' := [(5, .int (nI (p + 1))), (4, .int (nI (l4 - 1))), (0, .ref h), (1, .int who), (2, .int (nI n)), (3, .int 2)]) zx zy dX9_ends_71 hl (k := 5) rfl (nI_1 _) (by decide) rfl (fun ls hl => ?_)
                refine lv_goto (tgt := 6) zx zy dX9_ends_74 (by decide) ?_
                exact ih6 (p + 1) (l4 - 1) (upd st p 2) (by first | assumption | omega) (by first | exact hG | exact (skI_1 hl0 hfe).symm.trans hG) (by first | exact no_gone hno (by decide) | exact lt_next hno (hW_f1 c27) | exact lt_next hno (hW_f2 hwi c38)) (by first | exact hc | exact hc2) _ _ _ (by omega) hH (lv_sub hl [2, 3, 4, 5, 1, 0] rfl)
              · exact absurd c54 (by decide)
            · skip
              refine lv_goto (tgt := 71) zx zy dX9_ends_41 (by decide) ?_
              refine lv_iinc (v := nI (p + 1)) (lv' := [(5, .int (nI (p + 1))), (0, .ref h), (1, .int who), (2, .int (nI n)), (3, .int 2), (4, .int (nI l4))]) zx zy dX9_ends_71 hl (k := 5) rfl (nI_1 _) (by decide) rfl (fun ls hl => ?_)
              refine lv_goto (tgt := 6) zx zy dX9_ends_74 (by decide) ?_
              exact ih6 (p + 1) l4 st (by first | assumption | omega) (by first | exact hG | exact (skI_1 hl0 hfe).symm.trans hG) (by first | exact no_gone hno (by decide) | exact lt_next hno (hW_f1 c27) | exact lt_next hno (hW_f2 hwi c38)) (by first | exact hc | exact hc2) _ _ _ (by omega) hH (lv_sub hl [1, 2, 3, 4, 5, 0] rfl)
  exact L6 _ 0 n ST (by first | assumption | omega) (rfl) (fun j h => absurd h (Nat.not_lt_zero j)) (hcnt) _ _ _ (Nat.lt_succ_self _) hH (lv_sub hl [2, 3, 4, 5, 1, 0] rfl)
set_option maxHeartbeats 4000000 in
set_option maxRecDepth 100000 in
theorem k_X9_bid (l : Launch) (D : va_G) (cI cZ : ClassId) (h : Nat) (zcoins : Nat) (zdebt : Nat) (zfines : Nat) (zreading : Nat) (zruleYear : Nat) (zruleWhat : Nat) (zruleShare : Nat) (zstate : Nat) (zholder : Nat) (zyearOf : Nat) (zusedIn : Nat) (zprojectOf : Nat) (zwent : Nat) (zbidWorks : Nat) (zbidMany : Nat) (zbidPrice : Nat) (zisFalse : Nat) (zcutMany : Nat) (ztonnes : Nat) (zcosts : Nat) (zgiven : Nat) (zcutOff : Nat) (zgot : Nat) (zcutsOf : Nat) (now : Nat) (wk : Nat) (rk : Nat) (k : Nat) (ii : Int32) (bk : Nat) (ac : Int32) (pj : Nat) (sm : Int32) (mg : Int32) (bW : Nat → Int32) (bM : Nat → Int32) (bP : Nat → Int32) (a1 : Int32) (a2 : Int32) (a3 : Int32) (hwk : wk ≤ 10) (hbk : bk ≤ 40) : fx_CI l D cI cZ yX9_bid wsX9_bid ({ frames := 2, cells := 0, slots := 0, locals := 43 }) [.ref h, .int a1, .int a2, .int a3] [(h, .inr (9, [.int (nI now), .int (nI wk), .ref zcoins, .ref zdebt, .ref zfines, .ref zreading, .int (nI rk), .ref zruleYear, .ref zruleWhat, .ref zruleShare, .int (nI k), .ref zstate, .ref zholder, .ref zyearOf, .ref zusedIn, .ref zprojectOf, .ref zwent, .int ii, .int (nI bk), .ref zbidWorks, .ref zbidMany, .ref zbidPrice, .int ac, .int (nI pj), .ref zisFalse, .ref zcutMany, .ref ztonnes, .ref zcosts, .ref zgiven, .ref zcutOff, .ref zgot, .ref zcutsOf, .int sm, .int mg])), (zbidWorks, .inl (cI, 40, .inl bW)), (zbidMany, .inl (cI, 40, .inl bM)), (zbidPrice, .inl (cI, 40, .inl bP))] (fun (u : (Nat) × (Nat → Int32) × (Nat → Int32) × (Nat → Int32)) => [(h, .inr (9, [.int (nI now), .int (nI wk), .ref zcoins, .ref zdebt, .ref zfines, .ref zreading, .int (nI rk), .ref zruleYear, .ref zruleWhat, .ref zruleShare, .int (nI k), .ref zstate, .ref zholder, .ref zyearOf, .ref zusedIn, .ref zprojectOf, .ref zwent, .int ii, .int (nI u.1), .ref zbidWorks, .ref zbidMany, .ref zbidPrice, .int ac, .int (nI pj), .ref zisFalse, .ref zcutMany, .ref ztonnes, .ref zcosts, .ref zgiven, .ref zcutOff, .ref zgot, .ref zcutsOf, .int sm, .int mg])), (zbidWorks, .inl (cI, 40, .inl u.2.1)), (zbidMany, .inl (cI, 40, .inl u.2.2.1)), (zbidPrice, .inl (cI, 40, .inl u.2.2.2))]) (fun (r : Int32) (u : (Nat) × (Nat → Int32) × (Nat → Int32) × (Nat → Int32)) => ((bdC wk bk a1 a2 a3) ∧ r = nI (bk + 1) ∧ u.1 = bk + 1 ∧ u.2.1 = upd bW bk a1 ∧ u.2.2.1 = upd bM bk a2 ∧ u.2.2.2 = upd bP bk a3) ∨ ((¬ bdC wk bk a1 a2 a3) ∧ r = -1 ∧ u.1 = bk ∧ u.2.1 = bW ∧ u.2.2.1 = bM ∧ u.2.2.2 = bP)) := by
  refine fx_CI.of (ws' := (wsX9_bid).tail) cX9_bid 4 (by decide) rfl (Nat.le_of_ble_eq_true rfl) ?_
  intro zp ze zs zm za zb zt zc zA ls zQ hQ hC hr hlk hA hH hl
  have zx := hC.1.1
  have zy := hC.1.2.1
  have hl : lv_has ls 4 [(0, .ref h), (1, .int a1), (2, .int a2), (3, .int a3)] := hl
  refine lv_aload_n zx zy dX9_bid_0 rfl (lv_at hl 0 rfl) ?_
  refine lv_iload_n zx zy dX9_bid_1 rfl (lv_at hl 1 rfl) ?_
  refine fx_cVi (n := 1) (As := [.int a1]) (b := h) (rest := []) (fun (u : Unit) => [(h, .inr (9, [.int (nI now), .int (nI wk), .ref zcoins, .ref zdebt, .ref zfines, .ref zreading, .int (nI rk), .ref zruleYear, .ref zruleWhat, .ref zruleShare, .int (nI k), .ref zstate, .ref zholder, .ref zyearOf, .ref zusedIn, .ref zprojectOf, .ref zwent, .int ii, .int (nI bk), .ref zbidWorks, .ref zbidMany, .ref zbidPrice, .int ac, .int (nI pj), .ref zisFalse, .ref zcutMany, .ref ztonnes, .ref zcosts, .ref zgiven, .ref zcutOff, .ref zgot, .ref zcutsOf, .int sm, .int mg])), (zbidWorks, .inl (cI, 40, .inl bW)), (zbidMany, .inl (cI, 40, .inl bM)), (zbidPrice, .inl (cI, 40, .inl bP))]) hC hA hH (k_X9_isWorks l D cI cZ h zcoins zdebt zfines zreading zruleYear zruleWhat zruleShare zstate zholder zyearOf zusedIn zprojectOf zwent zbidWorks zbidMany zbidPrice zisFalse zcutMany ztonnes zcosts zgiven zcutOff zgot zcutsOf now wk rk k ii bk ac pj sm mg a1 (by first | assumption | omega)) [0] [1, 2, 3] [3, 0, 1, 2] [(zbidWorks, .inl (cI, 40, .inl bW)), (zbidMany, .inl (cI, 40, .inl bM)), (zbidPrice, .inl (cI, 40, .inl bP))] rfl rfl (by decide) (by decide) (fun _ => rfl) rfl gX9_bid_X9_isWorks (by decide +kernel) ⟨Nat.le_of_ble_eq_true rfl, Nat.le_of_ble_eq_true rfl⟩ 0 rfl rfl rfl rfl rfl hl.1 (Nat.le_of_ble_eq_true rfl) ⟨Nat.le_of_ble_eq_true rfl, Nat.le_of_ble_eq_true rfl⟩ dX9_bid_2 (fun r1 u H locs hw2 hH => ?_)
  rcases hw2 with ⟨⟨j2, hj2, rfl⟩, rfl⟩ | ⟨hg2, rfl⟩
  · skip
    have hH := (hH : fx_H zA zs.heap H locs D [(h, .inr (9, [.int (nI now), .int (nI wk), .ref zcoins, .ref zdebt, .ref zfines, .ref zreading, .int (nI rk), .ref zruleYear, .ref zruleWhat, .ref zruleShare, .int (nI k), .ref zstate, .ref zholder, .ref zyearOf, .ref zusedIn, .ref zprojectOf, .ref zwent, .int ii, .int (nI bk), .ref zbidWorks, .ref zbidMany, .ref zbidPrice, .int ac, .int (nI pj), .ref zisFalse, .ref zcutMany, .ref ztonnes, .ref zcosts, .ref zgiven, .ref zcutOff, .ref zgot, .ref zcutsOf, .int sm, .int mg])), (zbidWorks, .inl (cI, 40, .inl bW)), (zbidMany, .inl (cI, 40, .inl bM)), (zbidPrice, .inl (cI, 40, .inl bP))])
    have hl := (hl : lv_has ls 4 [(0, .ref h), (1, .int (nI j2)), (2, .int a2), (3, .int a3)])
    refine lv_if_eq (tgt := 39) zx zy dX9_bid_5 (by decide) (fun c5 => ?_) (fun c5 => ?_)
    · exact absurd c5 (by decide)
    · skip
      refine lv_iload_n zx zy dX9_bid_8 rfl (lv_at hl 2 rfl) ?_
      refine lv_iconst (v := 1) zx zy dX9_bid_9 (by decide) ?_
      refine lv_sipush (v := 400) zx zy dX9_bid_10 (by decide) ?_
      refine fx_cSi (n := 3) (As := [.int a2, .int 1, .int 400]) (rest := []) hC hA hH (k_X9_in l D cI cZ a2 1 400) ⟨rfl, rfl⟩ rfl gX9_bid_X9_in (by decide +kernel) ⟨Nat.le_of_ble_eq_true rfl, Nat.le_of_ble_eq_true rfl⟩ rfl rfl hl.1 (Nat.le_of_ble_eq_true rfl) ⟨(Nat.le_of_ble_eq_true rfl), (Nat.le_of_ble_eq_true rfl)⟩ dX9_bid_13 (fun r2 H locs hw13 hH => ?_)
      rcases hw13 with ⟨hg13, rfl⟩ | ⟨hg13, rfl⟩
      · skip
        have hH := (hH : fx_H zA zs.heap H locs D [(h, .inr (9, [.int (nI now), .int (nI wk), .ref zcoins, .ref zdebt, .ref zfines, .ref zreading, .int (nI rk), .ref zruleYear, .ref zruleWhat, .ref zruleShare, .int (nI k), .ref zstate, .ref zholder, .ref zyearOf, .ref zusedIn, .ref zprojectOf, .ref zwent, .int ii, .int (nI bk), .ref zbidWorks, .ref zbidMany, .ref zbidPrice, .int ac, .int (nI pj), .ref zisFalse, .ref zcutMany, .ref ztonnes, .ref zcosts, .ref zgiven, .ref zcutOff, .ref zgot, .ref zcutsOf, .int sm, .int mg])), (zbidWorks, .inl (cI, 40, .inl bW)), (zbidMany, .inl (cI, 40, .inl bM)), (zbidPrice, .inl (cI, 40, .inl bP))])
        refine lv_if_eq (tgt := 39) zx zy dX9_bid_16 (by decide) (fun c16 => ?_) (fun c16 => ?_)
        · exact absurd c16 (by decide)
        · skip
          refine lv_iload_n zx zy dX9_bid_19 rfl (lv_at hl 3 rfl) ?_
          refine lv_iconst (v := 0) zx zy dX9_bid_20 (by decide) ?_
          refine lv_sipush (v := 999) zx zy dX9_bid_21 (by decide) ?_
          refine fx_cSi (n := 3) (As := [.int a3, .int 0, .int 999]) (rest := []) hC hA hH (k_X9_in l D cI cZ a3 0 999) ⟨rfl, rfl⟩ rfl gX9_bid_X9_in (by decide +kernel) ⟨Nat.le_of_ble_eq_true rfl, Nat.le_of_ble_eq_true rfl⟩ rfl rfl hl.1 (Nat.le_of_ble_eq_true rfl) ⟨(Nat.le_of_ble_eq_true rfl), (Nat.le_of_ble_eq_true rfl)⟩ dX9_bid_24 (fun r3 H locs hw24 hH => ?_)
          rcases hw24 with ⟨hg24, rfl⟩ | ⟨hg24, rfl⟩
          · skip
            have hH := (hH : fx_H zA zs.heap H locs D [(h, .inr (9, [.int (nI now), .int (nI wk), .ref zcoins, .ref zdebt, .ref zfines, .ref zreading, .int (nI rk), .ref zruleYear, .ref zruleWhat, .ref zruleShare, .int (nI k), .ref zstate, .ref zholder, .ref zyearOf, .ref zusedIn, .ref zprojectOf, .ref zwent, .int ii, .int (nI bk), .ref zbidWorks, .ref zbidMany, .ref zbidPrice, .int ac, .int (nI pj), .ref zisFalse, .ref zcutMany, .ref ztonnes, .ref zcosts, .ref zgiven, .ref zcutOff, .ref zgot, .ref zcutsOf, .int sm, .int mg])), (zbidWorks, .inl (cI, 40, .inl bW)), (zbidMany, .inl (cI, 40, .inl bM)), (zbidPrice, .inl (cI, 40, .inl bP))])
            refine lv_if_eq (tgt := 39) zx zy dX9_bid_27 (by decide) (fun c27 => ?_) (fun c27 => ?_)
            · exact absurd c27 (by decide)
            · skip
              refine lv_aload_n zx zy dX9_bid_30 rfl (lv_at hl 0 rfl) ?_
              refine fx_get (C := RX9) (T := TX9) (N := 34) hC (fun _ h => List.mem_cons_of_mem _ (List.mem_append_right _ h)) hH 0 rfl rfl 18 (by decide) (by decide +kernel) rfl dX9_bid_31 ?_
              refine lv_bipush (v := 40) zx zy dX9_bid_34 (by decide) ?_
              refine lv_icmp_ne (tgt := 41) zx zy dX9_bid_36 (by decide) (fun c36 => ?_) (fun c36 => ?_)
              · skip
                have hlt : bk < 40 := Nat.lt_of_le_of_ne hbk (fun e => c36 (by rw [e]; rfl))
                refine lv_aload_n zx zy dX9_bid_41 rfl (lv_at hl 0 rfl) ?_
                refine fx_get (C := RX9) (T := TX9) (N := 34) hC (fun _ h => List.mem_cons_of_mem _ (List.mem_append_right _ h)) hH 0 rfl rfl 19 (by decide) (by decide +kernel) rfl dX9_bid_42 ?_
                refine lv_aload_n zx zy dX9_bid_45 rfl (lv_at hl 0 rfl) ?_
                refine fx_get (C := RX9) (T := TX9) (N := 34) hC (fun _ h => List.mem_cons_of_mem _ (List.mem_append_right _ h)) hH 0 rfl rfl 18 (by decide) (by decide +kernel) rfl dX9_bid_46 ?_
                refine lv_iload_n zx zy dX9_bid_49 rfl (lv_at hl 1 rfl) ?_
                refine fx_ist (ws2 := [(h, .inr (9, [.int (nI now), .int (nI wk), .ref zcoins, .ref zdebt, .ref zfines, .ref zreading, .int (nI rk), .ref zruleYear, .ref zruleWhat, .ref zruleShare, .int (nI k), .ref zstate, .ref zholder, .ref zyearOf, .ref zusedIn, .ref zprojectOf, .ref zwent, .int ii, .int (nI bk), .ref zbidWorks, .ref zbidMany, .ref zbidPrice, .int ac, .int (nI pj), .ref zisFalse, .ref zcutMany, .ref ztonnes, .ref zcosts, .ref zgiven, .ref zcutOff, .ref zgot, .ref zcutsOf, .int sm, .int mg])), (zbidWorks, .inl (cI, 40, .inl (upd bW (nI bk).toNatClampNeg (nI j2)))), (zbidMany, .inl (cI, 40, .inl bM)), (zbidPrice, .inl (cI, 40, .inl bP))]) hC hH 1 rfl (vp_in_nI (by omega) (by omega)) rfl dX9_bid_50 (fun H locs hH => ?_)
                rw [show (upd bW (nI bk).toNatClampNeg (nI j2) : Nat → Int32) = upd bW bk (nI j2) from (by rw [nI_clamp (by omega)])] at hH
                refine lv_aload_n zx zy dX9_bid_51 rfl (lv_at hl 0 rfl) ?_
                refine fx_get (C := RX9) (T := TX9) (N := 34) hC (fun _ h => List.mem_cons_of_mem _ (List.mem_append_right _ h)) hH 0 rfl rfl 20 (by decide) (by decide +kernel) rfl dX9_bid_52 ?_
                refine lv_aload_n zx zy dX9_bid_55 rfl (lv_at hl 0 rfl) ?_
                refine fx_get (C := RX9) (T := TX9) (N := 34) hC (fun _ h => List.mem_cons_of_mem _ (List.mem_append_right _ h)) hH 0 rfl rfl 18 (by decide) (by decide +kernel) rfl dX9_bid_56 ?_
                refine lv_iload_n zx zy dX9_bid_59 rfl (lv_at hl 2 rfl) ?_
                refine fx_ist (ws2 := [(h, .inr (9, [.int (nI now), .int (nI wk), .ref zcoins, .ref zdebt, .ref zfines, .ref zreading, .int (nI rk), .ref zruleYear, .ref zruleWhat, .ref zruleShare, .int (nI k), .ref zstate, .ref zholder, .ref zyearOf, .ref zusedIn, .ref zprojectOf, .ref zwent, .int ii, .int (nI bk), .ref zbidWorks, .ref zbidMany, .ref zbidPrice, .int ac, .int (nI pj), .ref zisFalse, .ref zcutMany, .ref ztonnes, .ref zcosts, .ref zgiven, .ref zcutOff, .ref zgot, .ref zcutsOf, .int sm, .int mg])), (zbidWorks, .inl (cI, 40, .inl (upd bW bk (nI j2)))), (zbidMany, .inl (cI, 40, .inl (upd bM (nI bk).toNatClampNeg a2))), (zbidPrice, .inl (cI, 40, .inl bP))]) hC hH 2 rfl (vp_in_nI (by omega) (by omega)) rfl dX9_bid_60 (fun H locs hH => ?_)
                rw [show (upd bM (nI bk).toNatClampNeg a2 : Nat → Int32) = upd bM bk a2 from (by rw [nI_clamp (by omega)])] at hH
                refine lv_aload_n zx zy dX9_bid_61 rfl (lv_at hl 0 rfl) ?_
                refine fx_get (C := RX9) (T := TX9) (N := 34) hC (fun _ h => List.mem_cons_of_mem _ (List.mem_append_right _ h)) hH 0 rfl rfl 21 (by decide) (by decide +kernel) rfl dX9_bid_62 ?_
                refine lv_aload_n zx zy dX9_bid_65 rfl (lv_at hl 0 rfl) ?_
                refine fx_get (C := RX9) (T := TX9) (N := 34) hC (fun _ h => List.mem_cons_of_mem _ (List.mem_append_right _ h)) hH 0 rfl rfl 18 (by decide) (by decide +kernel) rfl dX9_bid_66 ?_
                refine lv_iload_n zx zy dX9_bid_69 rfl (lv_at hl 3 rfl) ?_
                refine fx_ist (ws2 := [(h, .inr (9, [.int (nI now), .int (nI wk), .ref zcoins, .ref zdebt, .ref zfines, .ref zreading, .int (nI rk), .ref zruleYear, .ref zruleWhat, .ref zruleShare, .int (nI k), .ref zstate, .ref zholder, .ref zyearOf, .ref zusedIn, .ref zprojectOf, .ref zwent, .int ii, .int (nI bk), .ref zbidWorks, .ref zbidMany, .ref zbidPrice, .int ac, .int (nI pj), .ref zisFalse, .ref zcutMany, .ref ztonnes, .ref zcosts, .ref zgiven, .ref zcutOff, .ref zgot, .ref zcutsOf, .int sm, .int mg])), (zbidWorks, .inl (cI, 40, .inl (upd bW bk (nI j2)))), (zbidMany, .inl (cI, 40, .inl (upd bM bk a2))), (zbidPrice, .inl (cI, 40, .inl (upd bP (nI bk).toNatClampNeg a3)))]) hC hH 3 rfl (vp_in_nI (by omega) (by omega)) rfl dX9_bid_70 (fun H locs hH => ?_)
                rw [show (upd bP (nI bk).toNatClampNeg a3 : Nat → Int32) = upd bP bk a3 from (by rw [nI_clamp (by omega)])] at hH
                refine lv_aload_n zx zy dX9_bid_71 rfl (lv_at hl 0 rfl) ?_
                refine lv_dup zx zy dX9_bid_72 rfl ?_
                refine fx_get (C := RX9) (T := TX9) (N := 34) hC (fun _ h => List.mem_cons_of_mem _ (List.mem_append_right _ h)) hH 0 rfl rfl 18 (by decide) (by decide +kernel) rfl dX9_bid_73 ?_
                refine lv_iconst (v := 1) zx zy dX9_bid_76 (by decide) ?_
                refine lv_iadd zx zy dX9_bid_77 ?_
                refine lv_topi (fun v4 ev4 => ?_)
                obtain rfl : v4 = nI (bk + 1) := ev4.trans (nI_1 bk)
                refine fx_put (C := RX9) (T := TX9) (N := 34) (ty := .int) (ws2 := [(h, .inr (9, [.int (nI now), .int (nI wk), .ref zcoins, .ref zdebt, .ref zfines, .ref zreading, .int (nI rk), .ref zruleYear, .ref zruleWhat, .ref zruleShare, .int (nI k), .ref zstate, .ref zholder, .ref zyearOf, .ref zusedIn, .ref zprojectOf, .ref zwent, .int ii, .int (nI (bk + 1)), .ref zbidWorks, .ref zbidMany, .ref zbidPrice, .int ac, .int (nI pj), .ref zisFalse, .ref zcutMany, .ref ztonnes, .ref zcosts, .ref zgiven, .ref zcutOff, .ref zgot, .ref zcutsOf, .int sm, .int mg])), (zbidWorks, .inl (cI, 40, .inl (upd bW bk (nI j2)))), (zbidMany, .inl (cI, 40, .inl (upd bM bk a2))), (zbidPrice, .inl (cI, 40, .inl (upd bP bk a3)))]) hC (fun _ h => List.mem_cons_of_mem _ (List.mem_append_right _ h)) tyX9_ok nmX9 hH 0 rfl rfl 18 (by decide) (by decide +kernel) rfl rfl rfl rfl (Nat.le_of_ble_eq_true rfl) rfl dX9_bid_78 (fun H locs hH => ?_)
                refine lv_aload_n zx zy dX9_bid_81 rfl (lv_at hl 0 rfl) ?_
                refine fx_get (C := RX9) (T := TX9) (N := 34) hC (fun _ h => List.mem_cons_of_mem _ (List.mem_append_right _ h)) hH 0 rfl rfl 18 (by decide) (by decide +kernel) rfl dX9_bid_82 ?_
                exact fx_iret (v := nI (bk + 1)) hQ hC hr hlk hH dX9_bid_85 rfl (Nat.le_of_ble_eq_true rfl) (Nat.le_of_ble_eq_true rfl) (((bk + 1), upd bW bk (nI j2), upd bM bk a2, upd bP bk a3)) rfl (Or.inl ⟨⟨⟨j2, hj2, rfl⟩, hg13, hg24, hlt⟩, rfl, rfl, rfl, rfl, rfl⟩)
              · skip
                have hlt : ¬ bk < 40 := by rw [(nI_eq (b := 40) (by omega) (by omega)).mp c36]; omega
                refine lv_iconst (v := (-1)) zx zy dX9_bid_39 (by decide) ?_
                exact fx_iret (v := (-1)) hQ hC hr hlk hH dX9_bid_40 rfl (Nat.le_of_ble_eq_true rfl) (Nat.le_of_ble_eq_true rfl) ((bk, bW, bM, bP)) rfl (Or.inr ⟨fun z => by first | exact hg2 z.1 | exact hg13.elim z.2.1.1 z.2.1.2 | exact hg24.elim z.2.2.1.1 z.2.2.1.2 | exact hlt z.2.2.2, rfl, rfl, rfl, rfl, rfl⟩)
          · skip
            have hH := (hH : fx_H zA zs.heap H locs D [(h, .inr (9, [.int (nI now), .int (nI wk), .ref zcoins, .ref zdebt, .ref zfines, .ref zreading, .int (nI rk), .ref zruleYear, .ref zruleWhat, .ref zruleShare, .int (nI k), .ref zstate, .ref zholder, .ref zyearOf, .ref zusedIn, .ref zprojectOf, .ref zwent, .int ii, .int (nI bk), .ref zbidWorks, .ref zbidMany, .ref zbidPrice, .int ac, .int (nI pj), .ref zisFalse, .ref zcutMany, .ref ztonnes, .ref zcosts, .ref zgiven, .ref zcutOff, .ref zgot, .ref zcutsOf, .int sm, .int mg])), (zbidWorks, .inl (cI, 40, .inl bW)), (zbidMany, .inl (cI, 40, .inl bM)), (zbidPrice, .inl (cI, 40, .inl bP))])
            refine lv_if_eq (tgt := 39) zx zy dX9_bid_27 (by decide) (fun c27 => ?_) (fun c27 => ?_)
            · skip
              refine lv_iconst (v := (-1)) zx zy dX9_bid_39 (by decide) ?_
              exact fx_iret (v := (-1)) hQ hC hr hlk hH dX9_bid_40 rfl (Nat.le_of_ble_eq_true rfl) (Nat.le_of_ble_eq_true rfl) ((bk, bW, bM, bP)) rfl (Or.inr ⟨fun z => by first | exact hg2 z.1 | exact hg13.elim z.2.1.1 z.2.1.2 | exact hg24.elim z.2.2.1.1 z.2.2.1.2 | exact hlt z.2.2.2, rfl, rfl, rfl, rfl, rfl⟩)
            · exact absurd c27 (by decide)
      · skip
        have hH := (hH : fx_H zA zs.heap H locs D [(h, .inr (9, [.int (nI now), .int (nI wk), .ref zcoins, .ref zdebt, .ref zfines, .ref zreading, .int (nI rk), .ref zruleYear, .ref zruleWhat, .ref zruleShare, .int (nI k), .ref zstate, .ref zholder, .ref zyearOf, .ref zusedIn, .ref zprojectOf, .ref zwent, .int ii, .int (nI bk), .ref zbidWorks, .ref zbidMany, .ref zbidPrice, .int ac, .int (nI pj), .ref zisFalse, .ref zcutMany, .ref ztonnes, .ref zcosts, .ref zgiven, .ref zcutOff, .ref zgot, .ref zcutsOf, .int sm, .int mg])), (zbidWorks, .inl (cI, 40, .inl bW)), (zbidMany, .inl (cI, 40, .inl bM)), (zbidPrice, .inl (cI, 40, .inl bP))])
        refine lv_if_eq (tgt := 39) zx zy dX9_bid_16 (by decide) (fun c16 => ?_) (fun c16 => ?_)
        · skip
          refine lv_iconst (v := (-1)) zx zy dX9_bid_39 (by decide) ?_
          exact fx_iret (v := (-1)) hQ hC hr hlk hH dX9_bid_40 rfl (Nat.le_of_ble_eq_true rfl) (Nat.le_of_ble_eq_true rfl) ((bk, bW, bM, bP)) rfl (Or.inr ⟨fun z => by first | exact hg2 z.1 | exact hg13.elim z.2.1.1 z.2.1.2 | exact hg24.elim z.2.2.1.1 z.2.2.1.2 | exact hlt z.2.2.2, rfl, rfl, rfl, rfl, rfl⟩)
        · exact absurd c16 (by decide)
  · skip
    have hH := (hH : fx_H zA zs.heap H locs D [(h, .inr (9, [.int (nI now), .int (nI wk), .ref zcoins, .ref zdebt, .ref zfines, .ref zreading, .int (nI rk), .ref zruleYear, .ref zruleWhat, .ref zruleShare, .int (nI k), .ref zstate, .ref zholder, .ref zyearOf, .ref zusedIn, .ref zprojectOf, .ref zwent, .int ii, .int (nI bk), .ref zbidWorks, .ref zbidMany, .ref zbidPrice, .int ac, .int (nI pj), .ref zisFalse, .ref zcutMany, .ref ztonnes, .ref zcosts, .ref zgiven, .ref zcutOff, .ref zgot, .ref zcutsOf, .int sm, .int mg])), (zbidWorks, .inl (cI, 40, .inl bW)), (zbidMany, .inl (cI, 40, .inl bM)), (zbidPrice, .inl (cI, 40, .inl bP))])
    refine lv_if_eq (tgt := 39) zx zy dX9_bid_5 (by decide) (fun c5 => ?_) (fun c5 => ?_)
    · skip
      refine lv_iconst (v := (-1)) zx zy dX9_bid_39 (by decide) ?_
      exact fx_iret (v := (-1)) hQ hC hr hlk hH dX9_bid_40 rfl (Nat.le_of_ble_eq_true rfl) (Nat.le_of_ble_eq_true rfl) ((bk, bW, bM, bP)) rfl (Or.inr ⟨fun z => by first | exact hg2 z.1 | exact hg13.elim z.2.1.1 z.2.1.2 | exact hg24.elim z.2.2.1.1 z.2.2.1.2 | exact hlt z.2.2.2, rfl, rfl, rfl, rfl, rfl⟩)
    · exact absurd c5 (by decide)
set_option maxHeartbeats 4000000 in
set_option maxRecDepth 100000 in
theorem k_X9_trade (l : Launch) (D : va_G) (cI cZ : ClassId) (h : Nat) (zcoins : Nat) (zdebt : Nat) (zfines : Nat) (zreading : Nat) (zruleYear : Nat) (zruleWhat : Nat) (zruleShare : Nat) (zstate : Nat) (zholder : Nat) (zyearOf : Nat) (zusedIn : Nat) (zprojectOf : Nat) (zwent : Nat) (zbidWorks : Nat) (zbidMany : Nat) (zbidPrice : Nat) (zisFalse : Nat) (zcutMany : Nat) (ztonnes : Nat) (zcosts : Nat) (zgiven : Nat) (zcutOff : Nat) (zgot : Nat) (zcutsOf : Nat) (now : Nat) (wk : Nat) (rk : Nat) (k : Nat) (ii : Int32) (bk : Nat) (ac : Int32) (pj : Nat) (sm : Int32) (mg : Int32) (CO : Nat → Int32) (ST : Nat → Int32) (HO : Nat → Int32) (WE : Nat → Int32) (a1 : Int32) (a2 : Int32) (a3 : Int32) (a4 : Int32) (hwk : wk ≤ 10) (hk4 : k ≤ 4000) : fx_CI l D cI cZ yX9_trade wsX9_trade ({ frames := 2, cells := 0, slots := 0, locals := 43 }) [.ref h, .int a1, .int a2, .int a3, .int a4] [(h, .inr (9, [.int (nI now), .int (nI wk), .ref zcoins, .ref zdebt, .ref zfines, .ref zreading, .int (nI rk), .ref zruleYear, .ref zruleWhat, .ref zruleShare, .int (nI k), .ref zstate, .ref zholder, .ref zyearOf, .ref zusedIn, .ref zprojectOf, .ref zwent, .int ii, .int (nI bk), .ref zbidWorks, .ref zbidMany, .ref zbidPrice, .int ac, .int (nI pj), .ref zisFalse, .ref zcutMany, .ref ztonnes, .ref zcosts, .ref zgiven, .ref zcutOff, .ref zgot, .ref zcutsOf, .int sm, .int mg])), (zcoins, .inl (cI, 10, .inl CO)), (zstate, .inl (cI, 4000, .inl ST)), (zholder, .inl (cI, 4000, .inl HO)), (zwent, .inl (cI, 4000, .inl WE))] (fun (u : (Nat → Int32) × (Nat → Int32) × (Nat → Int32)) => [(h, .inr (9, [.int (nI now), .int (nI wk), .ref zcoins, .ref zdebt, .ref zfines, .ref zreading, .int (nI rk), .ref zruleYear, .ref zruleWhat, .ref zruleShare, .int (nI k), .ref zstate, .ref zholder, .ref zyearOf, .ref zusedIn, .ref zprojectOf, .ref zwent, .int ii, .int (nI bk), .ref zbidWorks, .ref zbidMany, .ref zbidPrice, .int ac, .int (nI pj), .ref zisFalse, .ref zcutMany, .ref ztonnes, .ref zcosts, .ref zgiven, .ref zcutOff, .ref zgot, .ref zcutsOf, .int sm, .int mg])), (zcoins, .inl (cI, 10, .inl u.1)), (zstate, .inl (cI, 4000, .inl ST)), (zholder, .inl (cI, 4000, .inl u.2.1)), (zwent, .inl (cI, 4000, .inl u.2.2))]) (fun (r : Int32) (u : (Nat → Int32) × (Nat → Int32) × (Nat → Int32)) => (∃ i j n, tdC wk k ST HO a1 a2 a3 a4 i j n ∧ r = 1 ∧ u.2.1 = (psI ST k (i + 1) (nI j) n HO WE).1 ∧ u.2.2 = (psI ST k (i + 1) (nI j) n HO WE).2 ∧ u.1 = upd (upd CO i (CO i + a4)) j ((upd CO i (CO i + a4)) j - a4)) ∨ ((∀ i j n, ¬ tdC wk k ST HO a1 a2 a3 a4 i j n) ∧ r = 0 ∧ u.2.1 = HO ∧ u.2.2 = WE ∧ u.1 = CO)) := by
  refine fx_CI.of (ws' := (wsX9_trade).tail) cX9_trade 5 (by decide) rfl (Nat.le_of_ble_eq_true rfl) ?_
  intro zp ze zs zm za zb zt zc zA ls zQ hQ hC hr hlk hA hH hl
  have zx := hC.1.1
  have zy := hC.1.2.1
  have hl : lv_has ls 5 [(0, .ref h), (1, .int a1), (2, .int a2), (3, .int a3), (4, .int a4)] := hl
  refine lv_aload_n zx zy dX9_trade_0 rfl (lv_at hl 0 rfl) ?_
  refine lv_iload_n zx zy dX9_trade_1 rfl (lv_at hl 1 rfl) ?_
  refine fx_cVi (n := 1) (As := [.int a1]) (b := h) (rest := []) (fun (u : Unit) => [(h, .inr (9, [.int (nI now), .int (nI wk), .ref zcoins, .ref zdebt, .ref zfines, .ref zreading, .int (nI rk), .ref zruleYear, .ref zruleWhat, .ref zruleShare, .int (nI k), .ref zstate, .ref zholder, .ref zyearOf, .ref zusedIn, .ref zprojectOf, .ref zwent, .int ii, .int (nI bk), .ref zbidWorks, .ref zbidMany, .ref zbidPrice, .int ac, .int (nI pj), .ref zisFalse, .ref zcutMany, .ref ztonnes, .ref zcosts, .ref zgiven, .ref zcutOff, .ref zgot, .ref zcutsOf, .int sm, .int mg])), (zcoins, .inl (cI, 10, .inl CO)), (zstate, .inl (cI, 4000, .inl ST)), (zholder, .inl (cI, 4000, .inl HO)), (zwent, .inl (cI, 4000, .inl WE))]) hC hA hH (k_X9_isWorks l D cI cZ h zcoins zdebt zfines zreading zruleYear zruleWhat zruleShare zstate zholder zyearOf zusedIn zprojectOf zwent zbidWorks zbidMany zbidPrice zisFalse zcutMany ztonnes zcosts zgiven zcutOff zgot zcutsOf now wk rk k ii bk ac pj sm mg a1 (by first | assumption | omega)) [0] [1, 2, 3, 4] [4, 0, 1, 2, 3] [(zcoins, .inl (cI, 10, .inl CO)), (zstate, .inl (cI, 4000, .inl ST)), (zholder, .inl (cI, 4000, .inl HO)), (zwent, .inl (cI, 4000, .inl WE))] rfl rfl (by decide) (by decide) (fun _ => rfl) rfl gX9_trade_X9_isWorks (by decide +kernel) ⟨Nat.le_of_ble_eq_true rfl, Nat.le_of_ble_eq_true rfl⟩ 0 rfl rfl rfl rfl rfl hl.1 (Nat.le_of_ble_eq_true rfl) ⟨Nat.le_of_ble_eq_true rfl, Nat.le_of_ble_eq_true rfl⟩ dX9_trade_2 (fun r1 u H locs hw2 hH => ?_)
  rcases hw2 with ⟨⟨j2, hj2, rfl⟩, rfl⟩ | ⟨hg2, rfl⟩
  · skip
    have hH := (hH : fx_H zA zs.heap H locs D [(h, .inr (9, [.int (nI now), .int (nI wk), .ref zcoins, .ref zdebt, .ref zfines, .ref zreading, .int (nI rk), .ref zruleYear, .ref zruleWhat, .ref zruleShare, .int (nI k), .ref zstate, .ref zholder, .ref zyearOf, .ref zusedIn, .ref zprojectOf, .ref zwent, .int ii, .int (nI bk), .ref zbidWorks, .ref zbidMany, .ref zbidPrice, .int ac, .int (nI pj), .ref zisFalse, .ref zcutMany, .ref ztonnes, .ref zcosts, .ref zgiven, .ref zcutOff, .ref zgot, .ref zcutsOf, .int sm, .int mg])), (zcoins, .inl (cI, 10, .inl CO)), (zstate, .inl (cI, 4000, .inl ST)), (zholder, .inl (cI, 4000, .inl HO)), (zwent, .inl (cI, 4000, .inl WE))])
    have hl := (hl : lv_has ls 5 [(0, .ref h), (1, .int (nI j2)), (2, .int a2), (3, .int a3), (4, .int a4)])
    refine lv_if_eq (tgt := 46) zx zy dX9_trade_5 (by decide) (fun c5 => ?_) (fun c5 => ?_)
    · exact absurd c5 (by decide)
    · skip
      refine lv_aload_n zx zy dX9_trade_8 rfl (lv_at hl 0 rfl) ?_
      refine lv_iload_n zx zy dX9_trade_9 rfl (lv_at hl 2 rfl) ?_
      refine fx_cVi (n := 1) (As := [.int a2]) (b := h) (rest := []) (fun (u : Unit) => [(h, .inr (9, [.int (nI now), .int (nI wk), .ref zcoins, .ref zdebt, .ref zfines, .ref zreading, .int (nI rk), .ref zruleYear, .ref zruleWhat, .ref zruleShare, .int (nI k), .ref zstate, .ref zholder, .ref zyearOf, .ref zusedIn, .ref zprojectOf, .ref zwent, .int ii, .int (nI bk), .ref zbidWorks, .ref zbidMany, .ref zbidPrice, .int ac, .int (nI pj), .ref zisFalse, .ref zcutMany, .ref ztonnes, .ref zcosts, .ref zgiven, .ref zcutOff, .ref zgot, .ref zcutsOf, .int sm, .int mg])), (zcoins, .inl (cI, 10, .inl CO)), (zstate, .inl (cI, 4000, .inl ST)), (zholder, .inl (cI, 4000, .inl HO)), (zwent, .inl (cI, 4000, .inl WE))]) hC hA hH (k_X9_isWorks l D cI cZ h zcoins zdebt zfines zreading zruleYear zruleWhat zruleShare zstate zholder zyearOf zusedIn zprojectOf zwent zbidWorks zbidMany zbidPrice zisFalse zcutMany ztonnes zcosts zgiven zcutOff zgot zcutsOf now wk rk k ii bk ac pj sm mg a2 (by first | assumption | omega)) [0] [1, 2, 3, 4] [4, 0, 1, 2, 3] [(zcoins, .inl (cI, 10, .inl CO)), (zstate, .inl (cI, 4000, .inl ST)), (zholder, .inl (cI, 4000, .inl HO)), (zwent, .inl (cI, 4000, .inl WE))] rfl rfl (by decide) (by decide) (fun _ => rfl) rfl gX9_trade_X9_isWorks (by decide +kernel) ⟨Nat.le_of_ble_eq_true rfl, Nat.le_of_ble_eq_true rfl⟩ 0 rfl rfl rfl rfl rfl hl.1 (Nat.le_of_ble_eq_true rfl) ⟨Nat.le_of_ble_eq_true rfl, Nat.le_of_ble_eq_true rfl⟩ dX9_trade_10 (fun r2 u H locs hw10 hH => ?_)
      rcases hw10 with ⟨⟨j10, hj10, rfl⟩, rfl⟩ | ⟨hg10, rfl⟩
      · skip
        have hH := (hH : fx_H zA zs.heap H locs D [(h, .inr (9, [.int (nI now), .int (nI wk), .ref zcoins, .ref zdebt, .ref zfines, .ref zreading, .int (nI rk), .ref zruleYear, .ref zruleWhat, .ref zruleShare, .int (nI k), .ref zstate, .ref zholder, .ref zyearOf, .ref zusedIn, .ref zprojectOf, .ref zwent, .int ii, .int (nI bk), .ref zbidWorks, .ref zbidMany, .ref zbidPrice, .int ac, .int (nI pj), .ref zisFalse, .ref zcutMany, .ref ztonnes, .ref zcosts, .ref zgiven, .ref zcutOff, .ref zgot, .ref zcutsOf, .int sm, .int mg])), (zcoins, .inl (cI, 10, .inl CO)), (zstate, .inl (cI, 4000, .inl ST)), (zholder, .inl (cI, 4000, .inl HO)), (zwent, .inl (cI, 4000, .inl WE))])
        have hl := (hl : lv_has ls 5 [(0, .ref h), (1, .int (nI j2)), (2, .int (nI j10)), (3, .int a3), (4, .int a4)])
        refine lv_if_eq (tgt := 46) zx zy dX9_trade_13 (by decide) (fun c13 => ?_) (fun c13 => ?_)
        · exact absurd c13 (by decide)
        · skip
          refine lv_iload_n zx zy dX9_trade_16 rfl (lv_at hl 1 rfl) ?_
          refine lv_iload_n zx zy dX9_trade_17 rfl (lv_at hl 2 rfl) ?_
          refine lv_icmp_eq (tgt := 46) zx zy dX9_trade_18 (by decide) (fun c18 => ?_) (fun c18 => ?_)
          · skip
            refine lv_iconst (v := 0) zx zy dX9_trade_46 (by decide) ?_
            exact fx_iret (v := 0) hQ hC hr hlk hH dX9_trade_47 rfl (Nat.le_of_ble_eq_true rfl) (Nat.le_of_ble_eq_true rfl) ((CO, HO, WE)) rfl (Or.inr ⟨fun i j n ⟨z1, z2, z3, z4, z5, z6, z7, z8, z9, z10⟩ => by first | exact hg2 ⟨i, z1, z6⟩ | exact hg10 ⟨j, z2, z7⟩ | exact z3 ((nI_eq (by omega) (by omega)).mp (z6.symm.trans (c18.trans z7))) | exact absurd c23 (by rw [z8]; exact nI_nlt (b := 1) z4 (by have := cntP_le (hW ST HO (i + 1)) k; omega)) | exact hno ⟨n, z4, by rw [(nI_eq (by omega) (by omega)).mp z6]; exact z5, z8⟩ | exact hg40.elim z9 z10, rfl, rfl, rfl, rfl⟩)
          · skip
            have hij : j2 ≠ j10 := fun e => c18 (by rw [e])
            refine lv_iload_n zx zy dX9_trade_21 rfl (lv_at hl 3 rfl) ?_
            refine lv_iconst (v := 1) zx zy dX9_trade_22 (by decide) ?_
            refine lv_icmp_lt (tgt := 46) zx zy dX9_trade_23 (by decide) (fun c23 => ?_) (fun c23 => ?_)
            · skip
              refine lv_iconst (v := 0) zx zy dX9_trade_46 (by decide) ?_
              exact fx_iret (v := 0) hQ hC hr hlk hH dX9_trade_47 rfl (Nat.le_of_ble_eq_true rfl) (Nat.le_of_ble_eq_true rfl) ((CO, HO, WE)) rfl (Or.inr ⟨fun i j n ⟨z1, z2, z3, z4, z5, z6, z7, z8, z9, z10⟩ => by first | exact hg2 ⟨i, z1, z6⟩ | exact hg10 ⟨j, z2, z7⟩ | exact z3 ((nI_eq (by omega) (by omega)).mp (z6.symm.trans (c18.trans z7))) | exact absurd c23 (by rw [z8]; exact nI_nlt (b := 1) z4 (by have := cntP_le (hW ST HO (i + 1)) k; omega)) | exact hno ⟨n, z4, by rw [(nI_eq (by omega) (by omega)).mp z6]; exact z5, z8⟩ | exact hg40.elim z9 z10, rfl, rfl, rfl, rfl⟩)
            · skip
              refine lv_iload_n zx zy dX9_trade_26 rfl (lv_at hl 3 rfl) ?_
              refine lv_aload_n zx zy dX9_trade_27 rfl (lv_at hl 0 rfl) ?_
              refine lv_iload_n zx zy dX9_trade_28 rfl (lv_at hl 1 rfl) ?_
              refine fx_cVi (n := 1) (As := [.int (nI j2)]) (b := h) (rest := [.int a3]) (fun (u : Unit) => [(h, .inr (9, [.int (nI now), .int (nI wk), .ref zcoins, .ref zdebt, .ref zfines, .ref zreading, .int (nI rk), .ref zruleYear, .ref zruleWhat, .ref zruleShare, .int (nI k), .ref zstate, .ref zholder, .ref zyearOf, .ref zusedIn, .ref zprojectOf, .ref zwent, .int ii, .int (nI bk), .ref zbidWorks, .ref zbidMany, .ref zbidPrice, .int ac, .int (nI pj), .ref zisFalse, .ref zcutMany, .ref ztonnes, .ref zcosts, .ref zgiven, .ref zcutOff, .ref zgot, .ref zcutsOf, .int sm, .int mg])), (zcoins, .inl (cI, 10, .inl CO)), (zstate, .inl (cI, 4000, .inl ST)), (zholder, .inl (cI, 4000, .inl HO)), (zwent, .inl (cI, 4000, .inl WE))]) hC hA hH (k_X9_holds l D cI cZ h zcoins zdebt zfines zreading zruleYear zruleWhat zruleShare zstate zholder zyearOf zusedIn zprojectOf zwent zbidWorks zbidMany zbidPrice zisFalse zcutMany ztonnes zcosts zgiven zcutOff zgot zcutsOf now wk rk k ii bk ac pj sm mg ST HO (nI j2) (j2 + 1) (nI_1 j2) (by omega) (by first | assumption | omega)) [0, 2, 3] [1, 4] [2, 0, 3, 4, 1] [(zcoins, .inl (cI, 10, .inl CO)), (zwent, .inl (cI, 4000, .inl WE))] rfl rfl (by decide) (by decide) (fun _ => rfl) rfl gX9_trade_X9_holds (by decide +kernel) ⟨Nat.le_of_ble_eq_true rfl, Nat.le_of_ble_eq_true rfl⟩ 0 rfl rfl rfl rfl rfl hl.1 (Nat.le_of_ble_eq_true rfl) ⟨Nat.le_of_ble_eq_true rfl, Nat.le_of_ble_eq_true rfl⟩ dX9_trade_29 (fun r3 u H locs hw29 hH => ?_)
              obtain rfl : r3 = nI (cntP (hW ST HO (j2 + 1)) k) := hw29
              have hH := (hH : fx_H zA zs.heap H locs D [(h, .inr (9, [.int (nI now), .int (nI wk), .ref zcoins, .ref zdebt, .ref zfines, .ref zreading, .int (nI rk), .ref zruleYear, .ref zruleWhat, .ref zruleShare, .int (nI k), .ref zstate, .ref zholder, .ref zyearOf, .ref zusedIn, .ref zprojectOf, .ref zwent, .int ii, .int (nI bk), .ref zbidWorks, .ref zbidMany, .ref zbidPrice, .int ac, .int (nI pj), .ref zisFalse, .ref zcutMany, .ref ztonnes, .ref zcosts, .ref zgiven, .ref zcutOff, .ref zgot, .ref zcutsOf, .int sm, .int mg])), (zcoins, .inl (cI, 10, .inl CO)), (zstate, .inl (cI, 4000, .inl ST)), (zholder, .inl (cI, 4000, .inl HO)), (zwent, .inl (cI, 4000, .inl WE))])
              have hcl := cntP_le (hW ST HO (j2 + 1)) k
              refine lv_icmp_gt (tgt := 46) zx zy dX9_trade_32 (by decide) (fun c32 => ?_) (fun c32 => ?_)
              · skip
                have hno := w_1out (x := a3) (c := cntP (hW ST HO (j2 + 1)) k) (by omega) (Or.inr c32)
                refine lv_iconst (v := 0) zx zy dX9_trade_46 (by decide) ?_
                exact fx_iret (v := 0) hQ hC hr hlk hH dX9_trade_47 rfl (Nat.le_of_ble_eq_true rfl) (Nat.le_of_ble_eq_true rfl) ((CO, HO, WE)) rfl (Or.inr ⟨fun i j n ⟨z1, z2, z3, z4, z5, z6, z7, z8, z9, z10⟩ => by first | exact hg2 ⟨i, z1, z6⟩ | exact hg10 ⟨j, z2, z7⟩ | exact z3 ((nI_eq (by omega) (by omega)).mp (z6.symm.trans (c18.trans z7))) | exact absurd c23 (by rw [z8]; exact nI_nlt (b := 1) z4 (by have := cntP_le (hW ST HO (i + 1)) k; omega)) | exact hno ⟨n, z4, by rw [(nI_eq (by omega) (by omega)).mp z6]; exact z5, z8⟩ | exact hg40.elim z9 z10, rfl, rfl, rfl, rfl⟩)
              · skip
                obtain ⟨n32, hn1, hn2, rfl⟩ := w_1in (by omega) c23 c32
                have hl := (hl : lv_has ls 5 [(0, .ref h), (1, .int (nI j2)), (2, .int (nI j10)), (3, .int (nI n32)), (4, .int a4)])
                refine lv_iload zx zy dX9_trade_35 (lv_at hl 4 rfl) ?_
                refine lv_iconst (v := 0) zx zy dX9_trade_37 (by decide) ?_
                refine lv_ldc (own := RX9) (v := 100000) zx zy hC.1.2.2.2.1 (hC.1.2.2.2.2 _ (by decide +kernel)) dX9_trade_38 ?_
                refine fx_cSi (n := 3) (As := [.int a4, .int 0, .int 100000]) (rest := []) hC hA hH (k_X9_in l D cI cZ a4 0 100000) ⟨rfl, rfl⟩ rfl gX9_trade_X9_in (by decide +kernel) ⟨Nat.le_of_ble_eq_true rfl, Nat.le_of_ble_eq_true rfl⟩ rfl rfl hl.1 (Nat.le_of_ble_eq_true rfl) ⟨(Nat.le_of_ble_eq_true rfl), (Nat.le_of_ble_eq_true rfl)⟩ dX9_trade_40 (fun r4 H locs hw40 hH => ?_)
                rcases hw40 with ⟨hg40, rfl⟩ | ⟨hg40, rfl⟩
                · skip
                  have hH := (hH : fx_H zA zs.heap H locs D [(h, .inr (9, [.int (nI now), .int (nI wk), .ref zcoins, .ref zdebt, .ref zfines, .ref zreading, .int (nI rk), .ref zruleYear, .ref zruleWhat, .ref zruleShare, .int (nI k), .ref zstate, .ref zholder, .ref zyearOf, .ref zusedIn, .ref zprojectOf, .ref zwent, .int ii, .int (nI bk), .ref zbidWorks, .ref zbidMany, .ref zbidPrice, .int ac, .int (nI pj), .ref zisFalse, .ref zcutMany, .ref ztonnes, .ref zcosts, .ref zgiven, .ref zcutOff, .ref zgot, .ref zcutsOf, .int sm, .int mg])), (zcoins, .inl (cI, 10, .inl CO)), (zstate, .inl (cI, 4000, .inl ST)), (zholder, .inl (cI, 4000, .inl HO)), (zwent, .inl (cI, 4000, .inl WE))])
                  refine lv_if_ne (tgt := 48) zx zy dX9_trade_43 (by decide) (fun c43 => ?_) (fun c43 => ?_)
                  · skip
                    refine lv_aload_n zx zy dX9_trade_48 rfl (lv_at hl 0 rfl) ?_
                    refine lv_iload_n zx zy dX9_trade_49 rfl (lv_at hl 1 rfl) ?_
                    refine lv_iload_n zx zy dX9_trade_50 rfl (lv_at hl 2 rfl) ?_
                    refine lv_iload_n zx zy dX9_trade_51 rfl (lv_at hl 3 rfl) ?_
                    refine fx_cVv (n := 3) (As := [.int (nI j2), .int (nI j10), .int (nI n32)]) (b := h) (rest := []) (fun (u : (Nat → Int32) × (Nat → Int32)) => [(h, .inr (9, [.int (nI now), .int (nI wk), .ref zcoins, .ref zdebt, .ref zfines, .ref zreading, .int (nI rk), .ref zruleYear, .ref zruleWhat, .ref zruleShare, .int (nI k), .ref zstate, .ref zholder, .ref zyearOf, .ref zusedIn, .ref zprojectOf, .ref zwent, .int ii, .int (nI bk), .ref zbidWorks, .ref zbidMany, .ref zbidPrice, .int ac, .int (nI pj), .ref zisFalse, .ref zcutMany, .ref ztonnes, .ref zcosts, .ref zgiven, .ref zcutOff, .ref zgot, .ref zcutsOf, .int sm, .int mg])), (zcoins, .inl (cI, 10, .inl CO)), (zstate, .inl (cI, 4000, .inl ST)), (zholder, .inl (cI, 4000, .inl u.1)), (zwent, .inl (cI, 4000, .inl u.2))]) hC hA hH (k_X9_goes l D cI cZ h zcoins zdebt zfines zreading zruleYear zruleWhat zruleShare zstate zholder zyearOf zusedIn zprojectOf zwent zbidWorks zbidMany zbidPrice zisFalse zcutMany ztonnes zcosts zgiven zcutOff zgot zcutsOf now wk rk k ii bk ac pj sm mg ST HO WE (nI j2) (nI j10) (j2 + 1) (j10 + 1) n32 (nI_1 j2) (nI_1 j10) (by omega) (by omega) (by omega) (by first | assumption | omega) hn2) [0, 2, 3, 4] [1] [1, 0, 2, 3, 4] [(zcoins, .inl (cI, 10, .inl CO))] rfl rfl (by decide) (by decide) (fun _ => rfl) rfl gX9_trade_X9_goes (by decide +kernel) ⟨Nat.le_of_ble_eq_true rfl, Nat.le_of_ble_eq_true rfl⟩ 0 rfl rfl rfl rfl rfl hl.1 (Nat.le_of_ble_eq_true rfl) ⟨Nat.le_of_ble_eq_true rfl, Nat.le_of_ble_eq_true rfl⟩ dX9_trade_52 (fun u H locs hw52 hH => ?_)
                    obtain ⟨u6, u7⟩ := u
                    obtain ⟨e8, e9⟩ := hw52
                    obtain rfl : u6 = (psI ST k (j2 + 1) (nI j10) n32 HO WE).1 := e8
                    obtain rfl : u7 = (psI ST k (j2 + 1) (nI j10) n32 HO WE).2 := e9
                    have hH := (hH : fx_H zA zs.heap H locs D [(h, .inr (9, [.int (nI now), .int (nI wk), .ref zcoins, .ref zdebt, .ref zfines, .ref zreading, .int (nI rk), .ref zruleYear, .ref zruleWhat, .ref zruleShare, .int (nI k), .ref zstate, .ref zholder, .ref zyearOf, .ref zusedIn, .ref zprojectOf, .ref zwent, .int ii, .int (nI bk), .ref zbidWorks, .ref zbidMany, .ref zbidPrice, .int ac, .int (nI pj), .ref zisFalse, .ref zcutMany, .ref ztonnes, .ref zcosts, .ref zgiven, .ref zcutOff, .ref zgot, .ref zcutsOf, .int sm, .int mg])), (zcoins, .inl (cI, 10, .inl CO)), (zstate, .inl (cI, 4000, .inl ST)), (zholder, .inl (cI, 4000, .inl ((psI ST k (j2 + 1) (nI j10) n32 HO WE).1))), (zwent, .inl (cI, 4000, .inl ((psI ST k (j2 + 1) (nI j10) n32 HO WE).2)))])
                    refine lv_aload_n zx zy dX9_trade_55 rfl (lv_at hl 0 rfl) ?_
                    refine fx_get (C := RX9) (T := TX9) (N := 34) hC (fun _ h => List.mem_cons_of_mem _ (List.mem_append_right _ h)) hH 0 rfl rfl 2 (by decide) (by decide +kernel) rfl dX9_trade_56 ?_
                    refine lv_iload_n zx zy dX9_trade_59 rfl (lv_at hl 1 rfl) ?_
                    refine lv_dup2_11 zx zy dX9_trade_60 rfl rfl ?_
                    refine fx_ild hC hH 1 rfl (vp_in_nI (by omega) (by omega)) dX9_trade_61 ?_
                    refine lv_topi (fun v10 ev10 => ?_)
                    obtain rfl : v10 = CO j2 := ev10.trans (congrArg CO (nI_clamp (by omega)))
                    refine lv_iload zx zy dX9_trade_62 (lv_at hl 4 rfl) ?_
                    refine lv_iadd zx zy dX9_trade_64 ?_
                    refine fx_ist (ws2 := [(h, .inr (9, [.int (nI now), .int (nI wk), .ref zcoins, .ref zdebt, .ref zfines, .ref zreading, .int (nI rk), .ref zruleYear, .ref zruleWhat, .ref zruleShare, .int (nI k), .ref zstate, .ref zholder, .ref zyearOf, .ref zusedIn, .ref zprojectOf, .ref zwent, .int ii, .int (nI bk), .ref zbidWorks, .ref zbidMany, .ref zbidPrice, .int ac, .int (nI pj), .ref zisFalse, .ref zcutMany, .ref ztonnes, .ref zcosts, .ref zgiven, .ref zcutOff, .ref zgot, .ref zcutsOf, .int sm, .int mg])), (zcoins, .inl (cI, 10, .inl (upd CO (nI j2).toNatClampNeg ((CO j2) + a4)))), (zstate, .inl (cI, 4000, .inl ST)), (zholder, .inl (cI, 4000, .inl ((psI ST k (j2 + 1) (nI j10) n32 HO WE).1))), (zwent, .inl (cI, 4000, .inl ((psI ST k (j2 + 1) (nI j10) n32 HO WE).2)))]) hC hH 1 rfl (vp_in_nI (by omega) (by omega)) rfl dX9_trade_65 (fun H locs hH => ?_)
                    rw [show (upd CO (nI j2).toNatClampNeg ((CO j2) + a4) : Nat → Int32) = upd CO j2 ((CO j2) + a4) from (by rw [nI_clamp (by omega)])] at hH
                    refine lv_aload_n zx zy dX9_trade_66 rfl (lv_at hl 0 rfl) ?_
                    refine fx_get (C := RX9) (T := TX9) (N := 34) hC (fun _ h => List.mem_cons_of_mem _ (List.mem_append_right _ h)) hH 0 rfl rfl 2 (by decide) (by decide +kernel) rfl dX9_trade_67 ?_
                    refine lv_iload_n zx zy dX9_trade_70 rfl (lv_at hl 2 rfl) ?_
                    refine lv_dup2_11 zx zy dX9_trade_71 rfl rfl ?_
                    refine fx_ild hC hH 1 rfl (vp_in_nI (by omega) (by omega)) dX9_trade_72 ?_
                    refine lv_topi (fun v11 ev11 => ?_)
                    obtain rfl : v11 = (upd CO j2 ((CO j2) + a4)) j10 := ev11.trans (congrArg (upd CO j2 ((CO j2) + a4)) (nI_clamp (by omega)))
                    refine lv_iload zx zy dX9_trade_73 (lv_at hl 4 rfl) ?_
                    refine lv_isub zx zy dX9_trade_75 ?_
                    refine fx_ist (ws2 := [(h, .inr (9, [.int (nI now), .int (nI wk), .ref zcoins, .ref zdebt, .ref zfines, .ref zreading, .int (nI rk), .ref zruleYear, .ref zruleWhat, .ref zruleShare, .int (nI k), .ref zstate, .ref zholder, .ref zyearOf, .ref zusedIn, .ref zprojectOf, .ref zwent, .int ii, .int (nI bk), .ref zbidWorks, .ref zbidMany, .ref zbidPrice, .int ac, .int (nI pj), .ref zisFalse, .ref zcutMany, .ref ztonnes, .ref zcosts, .ref zgiven, .ref zcutOff, .ref zgot, .ref zcutsOf, .int sm, .int mg])), (zcoins, .inl (cI, 10, .inl (upd (upd CO j2 ((CO j2) + a4)) (nI j10).toNatClampNeg (((upd CO j2 ((CO j2) + a4)) j10) - a4)))), (zstate, .inl (cI, 4000, .inl ST)), (zholder, .inl (cI, 4000, .inl ((psI ST k (j2 + 1) (nI j10) n32 HO WE).1))), (zwent, .inl (cI, 4000, .inl ((psI ST k (j2 + 1) (nI j10) n32 HO WE).2)))]) hC hH 1 rfl (vp_in_nI (by omega) (by omega)) rfl dX9_trade_76 (fun H locs hH => ?_)
                    rw [show (upd (upd CO j2 ((CO j2) + a4)) (nI j10).toNatClampNeg (((upd CO j2 ((CO j2) + a4)) j10) - a4) : Nat → Int32) = upd (upd CO j2 ((CO j2) + a4)) j10 (((upd CO j2 ((CO j2) + a4)) j10) - a4) from (by rw [nI_clamp (by omega)])] at hH
                    refine lv_iconst (v := 1) zx zy dX9_trade_77 (by decide) ?_
                    exact fx_iret (v := 1) hQ hC hr hlk hH dX9_trade_78 rfl (Nat.le_of_ble_eq_true rfl) (Nat.le_of_ble_eq_true rfl) ((upd (upd CO j2 ((CO j2) + a4)) j10 (((upd CO j2 ((CO j2) + a4)) j10) - a4), (psI ST k (j2 + 1) (nI j10) n32 HO WE).1, (psI ST k (j2 + 1) (nI j10) n32 HO WE).2)) rfl (Or.inl ⟨j2, j10, n32, ⟨hj2, hj10, hij, hn1, hn2, rfl, rfl, rfl, hg40.1, hg40.2⟩, rfl, rfl, rfl, rfl⟩)
                  · exact absurd c43 (by decide)
                · skip
                  have hH := (hH : fx_H zA zs.heap H locs D [(h, .inr (9, [.int (nI now), .int (nI wk), .ref zcoins, .ref zdebt, .ref zfines, .ref zreading, .int (nI rk), .ref zruleYear, .ref zruleWhat, .ref zruleShare, .int (nI k), .ref zstate, .ref zholder, .ref zyearOf, .ref zusedIn, .ref zprojectOf, .ref zwent, .int ii, .int (nI bk), .ref zbidWorks, .ref zbidMany, .ref zbidPrice, .int ac, .int (nI pj), .ref zisFalse, .ref zcutMany, .ref ztonnes, .ref zcosts, .ref zgiven, .ref zcutOff, .ref zgot, .ref zcutsOf, .int sm, .int mg])), (zcoins, .inl (cI, 10, .inl CO)), (zstate, .inl (cI, 4000, .inl ST)), (zholder, .inl (cI, 4000, .inl HO)), (zwent, .inl (cI, 4000, .inl WE))])
                  refine lv_if_ne (tgt := 48) zx zy dX9_trade_43 (by decide) (fun c43 => ?_) (fun c43 => ?_)
                  · exact absurd c43 (by decide)
                  · skip
                    refine lv_iconst (v := 0) zx zy dX9_trade_46 (by decide) ?_
                    exact fx_iret (v := 0) hQ hC hr hlk hH dX9_trade_47 rfl (Nat.le_of_ble_eq_true rfl) (Nat.le_of_ble_eq_true rfl) ((CO, HO, WE)) rfl (Or.inr ⟨fun i j n ⟨z1, z2, z3, z4, z5, z6, z7, z8, z9, z10⟩ => by first | exact hg2 ⟨i, z1, z6⟩ | exact hg10 ⟨j, z2, z7⟩ | exact z3 ((nI_eq (by omega) (by omega)).mp (z6.symm.trans (c18.trans z7))) | exact absurd c23 (by rw [z8]; exact nI_nlt (b := 1) z4 (by have := cntP_le (hW ST HO (i + 1)) k; omega)) | exact hno ⟨n, z4, by rw [(nI_eq (by omega) (by omega)).mp z6]; exact z5, z8⟩ | exact hg40.elim z9 z10, rfl, rfl, rfl, rfl⟩)
      · skip
        have hH := (hH : fx_H zA zs.heap H locs D [(h, .inr (9, [.int (nI now), .int (nI wk), .ref zcoins, .ref zdebt, .ref zfines, .ref zreading, .int (nI rk), .ref zruleYear, .ref zruleWhat, .ref zruleShare, .int (nI k), .ref zstate, .ref zholder, .ref zyearOf, .ref zusedIn, .ref zprojectOf, .ref zwent, .int ii, .int (nI bk), .ref zbidWorks, .ref zbidMany, .ref zbidPrice, .int ac, .int (nI pj), .ref zisFalse, .ref zcutMany, .ref ztonnes, .ref zcosts, .ref zgiven, .ref zcutOff, .ref zgot, .ref zcutsOf, .int sm, .int mg])), (zcoins, .inl (cI, 10, .inl CO)), (zstate, .inl (cI, 4000, .inl ST)), (zholder, .inl (cI, 4000, .inl HO)), (zwent, .inl (cI, 4000, .inl WE))])
        refine lv_if_eq (tgt := 46) zx zy dX9_trade_13 (by decide) (fun c13 => ?_) (fun c13 => ?_)
        · skip
          refine lv_iconst (v := 0) zx zy dX9_trade_46 (by decide) ?_
          exact fx_iret (v := 0) hQ hC hr hlk hH dX9_trade_47 rfl (Nat.le_of_ble_eq_true rfl) (Nat.le_of_ble_eq_true rfl) ((CO, HO, WE)) rfl (Or.inr ⟨fun i j n ⟨z1, z2, z3, z4, z5, z6, z7, z8, z9, z10⟩ => by first | exact hg2 ⟨i, z1, z6⟩ | exact hg10 ⟨j, z2, z7⟩ | exact z3 ((nI_eq (by omega) (by omega)).mp (z6.symm.trans (c18.trans z7))) | exact absurd c23 (by rw [z8]; exact nI_nlt (b := 1) z4 (by have := cntP_le (hW ST HO (i + 1)) k; omega)) | exact hno ⟨n, z4, by rw [(nI_eq (by omega) (by omega)).mp z6]; exact z5, z8⟩ | exact hg40.elim z9 z10, rfl, rfl, rfl, rfl⟩)
        · exact absurd c13 (by decide)
  · skip
    have hH := (hH : fx_H zA zs.heap H locs D [(h, .inr (9, [.int (nI now), .int (nI wk), .ref zcoins, .ref zdebt, .ref zfines, .ref zreading, .int (nI rk), .ref zruleYear, .ref zruleWhat, .ref zruleShare, .int (nI k), .ref zstate, .ref zholder, .ref zyearOf, .ref zusedIn, .ref zprojectOf, .ref zwent, .int ii, .int (nI bk), .ref zbidWorks, .ref zbidMany, .ref zbidPrice, .int ac, .int (nI pj), .ref zisFalse, .ref zcutMany, .ref ztonnes, .ref zcosts, .ref zgiven, .ref zcutOff, .ref zgot, .ref zcutsOf, .int sm, .int mg])), (zcoins, .inl (cI, 10, .inl CO)), (zstate, .inl (cI, 4000, .inl ST)), (zholder, .inl (cI, 4000, .inl HO)), (zwent, .inl (cI, 4000, .inl WE))])
    refine lv_if_eq (tgt := 46) zx zy dX9_trade_5 (by decide) (fun c5 => ?_) (fun c5 => ?_)
    · skip
      refine lv_iconst (v := 0) zx zy dX9_trade_46 (by decide) ?_
      exact fx_iret (v := 0) hQ hC hr hlk hH dX9_trade_47 rfl (Nat.le_of_ble_eq_true rfl) (Nat.le_of_ble_eq_true rfl) ((CO, HO, WE)) rfl (Or.inr ⟨fun i j n ⟨z1, z2, z3, z4, z5, z6, z7, z8, z9, z10⟩ => by first | exact hg2 ⟨i, z1, z6⟩ | exact hg10 ⟨j, z2, z7⟩ | exact z3 ((nI_eq (by omega) (by omega)).mp (z6.symm.trans (c18.trans z7))) | exact absurd c23 (by rw [z8]; exact nI_nlt (b := 1) z4 (by have := cntP_le (hW ST HO (i + 1)) k; omega)) | exact hno ⟨n, z4, by rw [(nI_eq (by omega) (by omega)).mp z6]; exact z5, z8⟩ | exact hg40.elim z9 z10, rfl, rfl, rfl, rfl⟩)
    · exact absurd c5 (by decide)
set_option maxHeartbeats 4000000 in
set_option maxRecDepth 100000 in
theorem k_X9_cancel (l : Launch) (D : va_G) (cI cZ : ClassId) (h : Nat) (zcoins : Nat) (zdebt : Nat) (zfines : Nat) (zreading : Nat) (zruleYear : Nat) (zruleWhat : Nat) (zruleShare : Nat) (zstate : Nat) (zholder : Nat) (zyearOf : Nat) (zusedIn : Nat) (zprojectOf : Nat) (zwent : Nat) (zbidWorks : Nat) (zbidMany : Nat) (zbidPrice : Nat) (zisFalse : Nat) (zcutMany : Nat) (ztonnes : Nat) (zcosts : Nat) (zgiven : Nat) (zcutOff : Nat) (zgot : Nat) (zcutsOf : Nat) (now : Nat) (wk : Nat) (rk : Nat) (k : Nat) (ii : Int32) (bk : Nat) (ac : Int32) (pj : Nat) (sm : Int32) (mg : Int32) (ST : Nat → Int32) (HO : Nat → Int32) (x : Int32) (n : Int32) (hwk : wk ≤ 10) (hk4 : k ≤ 4000) : fx_CI l D cI cZ yX9_cancel wsX9_cancel ({ frames := 2, cells := 0, slots := 0, locals := 43 }) [.ref h, .int x, .int n] [(h, .inr (9, [.int (nI now), .int (nI wk), .ref zcoins, .ref zdebt, .ref zfines, .ref zreading, .int (nI rk), .ref zruleYear, .ref zruleWhat, .ref zruleShare, .int (nI k), .ref zstate, .ref zholder, .ref zyearOf, .ref zusedIn, .ref zprojectOf, .ref zwent, .int ii, .int (nI bk), .ref zbidWorks, .ref zbidMany, .ref zbidPrice, .int ac, .int (nI pj), .ref zisFalse, .ref zcutMany, .ref ztonnes, .ref zcosts, .ref zgiven, .ref zcutOff, .ref zgot, .ref zcutsOf, .int sm, .int mg])), (zstate, .inl (cI, 4000, .inl ST)), (zholder, .inl (cI, 4000, .inl HO))] (fun (u : (Nat → Int32)) => [(h, .inr (9, [.int (nI now), .int (nI wk), .ref zcoins, .ref zdebt, .ref zfines, .ref zreading, .int (nI rk), .ref zruleYear, .ref zruleWhat, .ref zruleShare, .int (nI k), .ref zstate, .ref zholder, .ref zyearOf, .ref zusedIn, .ref zprojectOf, .ref zwent, .int ii, .int (nI bk), .ref zbidWorks, .ref zbidMany, .ref zbidPrice, .int ac, .int (nI pj), .ref zisFalse, .ref zcutMany, .ref ztonnes, .ref zcosts, .ref zgiven, .ref zcutOff, .ref zgot, .ref zcutsOf, .int sm, .int mg])), (zstate, .inl (cI, 4000, .inl u)), (zholder, .inl (cI, 4000, .inl HO))]) (fun (r : Int32) (u : (Nat → Int32)) => (∃ j m, (j < wk ∧ x = nI j ∧ 1 ≤ m ∧ m ≤ cntP (hW ST HO (j + 1)) k ∧ n = nI m) ∧ r = 1 ∧ u = skI HO k (j + 1) m ST) ∨ ((∀ j m, ¬ (j < wk ∧ x = nI j ∧ 1 ≤ m ∧ m ≤ cntP (hW ST HO (j + 1)) k ∧ n = nI m)) ∧ r = 0 ∧ u = ST)) := by
  refine fx_CI.of (ws' := (wsX9_cancel).tail) cX9_cancel 3 (by decide) rfl (Nat.le_of_ble_eq_true rfl) ?_
  intro zp ze zs zm za zb zt zc zA ls zQ hQ hC hr hlk hA hH hl
  have zx := hC.1.1
  have zy := hC.1.2.1
  have hl : lv_has ls 3 [(0, .ref h), (1, .int x), (2, .int n)] := hl
  refine lv_aload_n zx zy dX9_cancel_0 rfl (lv_at hl 0 rfl) ?_
  refine lv_iload_n zx zy dX9_cancel_1 rfl (lv_at hl 1 rfl) ?_
  refine fx_cVi (n := 1) (As := [.int x]) (b := h) (rest := []) (fun (u : Unit) => [(h, .inr (9, [.int (nI now), .int (nI wk), .ref zcoins, .ref zdebt, .ref zfines, .ref zreading, .int (nI rk), .ref zruleYear, .ref zruleWhat, .ref zruleShare, .int (nI k), .ref zstate, .ref zholder, .ref zyearOf, .ref zusedIn, .ref zprojectOf, .ref zwent, .int ii, .int (nI bk), .ref zbidWorks, .ref zbidMany, .ref zbidPrice, .int ac, .int (nI pj), .ref zisFalse, .ref zcutMany, .ref ztonnes, .ref zcosts, .ref zgiven, .ref zcutOff, .ref zgot, .ref zcutsOf, .int sm, .int mg])), (zstate, .inl (cI, 4000, .inl ST)), (zholder, .inl (cI, 4000, .inl HO))]) hC hA hH (k_X9_isWorks l D cI cZ h zcoins zdebt zfines zreading zruleYear zruleWhat zruleShare zstate zholder zyearOf zusedIn zprojectOf zwent zbidWorks zbidMany zbidPrice zisFalse zcutMany ztonnes zcosts zgiven zcutOff zgot zcutsOf now wk rk k ii bk ac pj sm mg x (by first | assumption | omega)) [0] [1, 2] [2, 0, 1] [(zstate, .inl (cI, 4000, .inl ST)), (zholder, .inl (cI, 4000, .inl HO))] rfl rfl (by decide) (by decide) (fun _ => rfl) rfl gX9_cancel_X9_isWorks (by decide +kernel) ⟨Nat.le_of_ble_eq_true rfl, Nat.le_of_ble_eq_true rfl⟩ 0 rfl rfl rfl rfl rfl hl.1 (Nat.le_of_ble_eq_true rfl) ⟨Nat.le_of_ble_eq_true rfl, Nat.le_of_ble_eq_true rfl⟩ dX9_cancel_2 (fun r1 u H locs hw2 hH => ?_)
  rcases hw2 with ⟨⟨j2, hj2, rfl⟩, rfl⟩ | ⟨hg2, rfl⟩
  · skip
    have hH := (hH : fx_H zA zs.heap H locs D [(h, .inr (9, [.int (nI now), .int (nI wk), .ref zcoins, .ref zdebt, .ref zfines, .ref zreading, .int (nI rk), .ref zruleYear, .ref zruleWhat, .ref zruleShare, .int (nI k), .ref zstate, .ref zholder, .ref zyearOf, .ref zusedIn, .ref zprojectOf, .ref zwent, .int ii, .int (nI bk), .ref zbidWorks, .ref zbidMany, .ref zbidPrice, .int ac, .int (nI pj), .ref zisFalse, .ref zcutMany, .ref ztonnes, .ref zcosts, .ref zgiven, .ref zcutOff, .ref zgot, .ref zcutsOf, .int sm, .int mg])), (zstate, .inl (cI, 4000, .inl ST)), (zholder, .inl (cI, 4000, .inl HO))])
    have hl := (hl : lv_has ls 3 [(0, .ref h), (1, .int (nI j2)), (2, .int n)])
    refine lv_if_eq (tgt := 22) zx zy dX9_cancel_5 (by decide) (fun c5 => ?_) (fun c5 => ?_)
    · exact absurd c5 (by decide)
    · skip
      refine lv_iload_n zx zy dX9_cancel_8 rfl (lv_at hl 2 rfl) ?_
      refine lv_iconst (v := 1) zx zy dX9_cancel_9 (by decide) ?_
      refine lv_icmp_lt (tgt := 22) zx zy dX9_cancel_10 (by decide) (fun c10 => ?_) (fun c10 => ?_)
      · skip
        refine lv_iconst (v := 0) zx zy dX9_cancel_22 (by decide) ?_
        exact fx_iret (v := 0) hQ hC hr hlk hH dX9_cancel_23 rfl (Nat.le_of_ble_eq_true rfl) (Nat.le_of_ble_eq_true rfl) (ST) rfl (Or.inr ⟨fun j m z => by first | exact hg2 ⟨j, z.1, z.2.1⟩ | exact absurd c10 (by rw [z.2.2.2.2]; exact nI_nlt (b := 1) z.2.2.1 (by have := cntP_le (hW ST HO (j + 1)) k; omega)) | exact hno ⟨m, z.2.2.1, by rw [(nI_eq (by omega) (by omega)).mp z.2.1]; exact z.2.2.2.1, z.2.2.2.2⟩, rfl, rfl⟩)
      · skip
        refine lv_iload_n zx zy dX9_cancel_13 rfl (lv_at hl 2 rfl) ?_
        refine lv_aload_n zx zy dX9_cancel_14 rfl (lv_at hl 0 rfl) ?_
        refine lv_iload_n zx zy dX9_cancel_15 rfl (lv_at hl 1 rfl) ?_
        refine fx_cVi (n := 1) (As := [.int (nI j2)]) (b := h) (rest := [.int n]) (fun (u : Unit) => [(h, .inr (9, [.int (nI now), .int (nI wk), .ref zcoins, .ref zdebt, .ref zfines, .ref zreading, .int (nI rk), .ref zruleYear, .ref zruleWhat, .ref zruleShare, .int (nI k), .ref zstate, .ref zholder, .ref zyearOf, .ref zusedIn, .ref zprojectOf, .ref zwent, .int ii, .int (nI bk), .ref zbidWorks, .ref zbidMany, .ref zbidPrice, .int ac, .int (nI pj), .ref zisFalse, .ref zcutMany, .ref ztonnes, .ref zcosts, .ref zgiven, .ref zcutOff, .ref zgot, .ref zcutsOf, .int sm, .int mg])), (zstate, .inl (cI, 4000, .inl ST)), (zholder, .inl (cI, 4000, .inl HO))]) hC hA hH (k_X9_holds l D cI cZ h zcoins zdebt zfines zreading zruleYear zruleWhat zruleShare zstate zholder zyearOf zusedIn zprojectOf zwent zbidWorks zbidMany zbidPrice zisFalse zcutMany ztonnes zcosts zgiven zcutOff zgot zcutsOf now wk rk k ii bk ac pj sm mg ST HO (nI j2) (j2 + 1) (nI_1 j2) (by omega) (by first | assumption | omega)) [0, 1, 2] [] [0, 1, 2] [] rfl rfl (by decide) (by decide) (fun _ => rfl) rfl gX9_cancel_X9_holds (by decide +kernel) ⟨Nat.le_of_ble_eq_true rfl, Nat.le_of_ble_eq_true rfl⟩ 0 rfl rfl rfl rfl rfl hl.1 (Nat.le_of_ble_eq_true rfl) ⟨Nat.le_of_ble_eq_true rfl, Nat.le_of_ble_eq_true rfl⟩ dX9_cancel_16 (fun r2 u H locs hw16 hH => ?_)
        obtain rfl : r2 = nI (cntP (hW ST HO (j2 + 1)) k) := hw16
        have hH := (hH : fx_H zA zs.heap H locs D [(h, .inr (9, [.int (nI now), .int (nI wk), .ref zcoins, .ref zdebt, .ref zfines, .ref zreading, .int (nI rk), .ref zruleYear, .ref zruleWhat, .ref zruleShare, .int (nI k), .ref zstate, .ref zholder, .ref zyearOf, .ref zusedIn, .ref zprojectOf, .ref zwent, .int ii, .int (nI bk), .ref zbidWorks, .ref zbidMany, .ref zbidPrice, .int ac, .int (nI pj), .ref zisFalse, .ref zcutMany, .ref ztonnes, .ref zcosts, .ref zgiven, .ref zcutOff, .ref zgot, .ref zcutsOf, .int sm, .int mg])), (zstate, .inl (cI, 4000, .inl ST)), (zholder, .inl (cI, 4000, .inl HO))])
        have hcl := cntP_le (hW ST HO (j2 + 1)) k
        refine lv_icmp_le (tgt := 24) zx zy dX9_cancel_19 (by decide) (fun c19 => ?_) (fun c19 => ?_)
        · skip
          obtain ⟨n32, hn1, hn2, rfl⟩ := w_1in (c := cntP (hW ST HO (j2 + 1)) k) (by omega) c10 (Int32.not_lt.mpr c19)
          have hl := (hl : lv_has ls 3 [(0, .ref h), (1, .int (nI j2)), (2, .int (nI n32))])
          refine lv_aload_n zx zy dX9_cancel_24 rfl (lv_at hl 0 rfl) ?_
          refine lv_iload_n zx zy dX9_cancel_25 rfl (lv_at hl 1 rfl) ?_
          refine lv_iload_n zx zy dX9_cancel_26 rfl (lv_at hl 2 rfl) ?_
          refine lv_iconst (v := 2) zx zy dX9_cancel_27 (by decide) ?_
          refine fx_cVv (n := 3) (As := [.int (nI j2), .int (nI n32), .int 2]) (b := h) (rest := []) (fun (u : (Nat → Int32)) => [(h, .inr (9, [.int (nI now), .int (nI wk), .ref zcoins, .ref zdebt, .ref zfines, .ref zreading, .int (nI rk), .ref zruleYear, .ref zruleWhat, .ref zruleShare, .int (nI k), .ref zstate, .ref zholder, .ref zyearOf, .ref zusedIn, .ref zprojectOf, .ref zwent, .int ii, .int (nI bk), .ref zbidWorks, .ref zbidMany, .ref zbidPrice, .int ac, .int (nI pj), .ref zisFalse, .ref zcutMany, .ref ztonnes, .ref zcosts, .ref zgiven, .ref zcutOff, .ref zgot, .ref zcutsOf, .int sm, .int mg])), (zstate, .inl (cI, 4000, .inl u)), (zholder, .inl (cI, 4000, .inl HO))]) hC hA hH (k_X9_ends_2 l D cI cZ h zcoins zdebt zfines zreading zruleYear zruleWhat zruleShare zstate zholder zyearOf zusedIn zprojectOf zwent zbidWorks zbidMany zbidPrice zisFalse zcutMany ztonnes zcosts zgiven zcutOff zgot zcutsOf now wk rk k ii bk ac pj sm mg ST HO (nI j2) (j2 + 1) (nI_1 j2) (by omega) n32 (by first | assumption | omega) hn2) [0, 1, 2] [] [0, 1, 2] [] rfl rfl (by decide) (by decide) (fun _ => rfl) rfl gX9_cancel_X9_ends (by decide +kernel) ⟨Nat.le_of_ble_eq_true rfl, Nat.le_of_ble_eq_true rfl⟩ 0 rfl rfl rfl rfl rfl hl.1 (Nat.le_of_ble_eq_true rfl) ⟨Nat.le_of_ble_eq_true rfl, Nat.le_of_ble_eq_true rfl⟩ dX9_cancel_28 (fun u H locs hw28 hH => ?_)
          obtain ⟨u4, rfl⟩ : ∃ z, z = u := ⟨_, rfl⟩
          obtain rfl : u4 = skI HO k (j2 + 1) n32 ST := hw28
          have hH := (hH : fx_H zA zs.heap H locs D [(h, .inr (9, [.int (nI now), .int (nI wk), .ref zcoins, .ref zdebt, .ref zfines, .ref zreading, .int (nI rk), .ref zruleYear, .ref zruleWhat, .ref zruleShare, .int (nI k), .ref zstate, .ref zholder, .ref zyearOf, .ref zusedIn, .ref zprojectOf, .ref zwent, .int ii, .int (nI bk), .ref zbidWorks, .ref zbidMany, .ref zbidPrice, .int ac, .int (nI pj), .ref zisFalse, .ref zcutMany, .ref ztonnes, .ref zcosts, .ref zgiven, .ref zcutOff, .ref zgot, .ref zcutsOf, .int sm, .int mg])), (zstate, .inl (cI, 4000, .inl (skI HO k (j2 + 1) n32 ST))), (zholder, .inl (cI, 4000, .inl HO))])
          refine lv_iconst (v := 1) zx zy dX9_cancel_31 (by decide) ?_
          exact fx_iret (v := 1) hQ hC hr hlk hH dX9_cancel_32 rfl (Nat.le_of_ble_eq_true rfl) (Nat.le_of_ble_eq_true rfl) (skI HO k (j2 + 1) n32 ST) rfl (Or.inl ⟨j2, n32, ⟨hj2, rfl, hn1, hn2, rfl⟩, rfl, rfl⟩)
        · skip
          have hno := w_1out (x := n) (c := cntP (hW ST HO (j2 + 1)) k) (by omega) (Or.inr (i_nle c19))
          refine lv_iconst (v := 0) zx zy dX9_cancel_22 (by decide) ?_
          exact fx_iret (v := 0) hQ hC hr hlk hH dX9_cancel_23 rfl (Nat.le_of_ble_eq_true rfl) (Nat.le_of_ble_eq_true rfl) (ST) rfl (Or.inr ⟨fun j m z => by first | exact hg2 ⟨j, z.1, z.2.1⟩ | exact absurd c10 (by rw [z.2.2.2.2]; exact nI_nlt (b := 1) z.2.2.1 (by have := cntP_le (hW ST HO (j + 1)) k; omega)) | exact hno ⟨m, z.2.2.1, by rw [(nI_eq (by omega) (by omega)).mp z.2.1]; exact z.2.2.2.1, z.2.2.2.2⟩, rfl, rfl⟩)
  · skip
    have hH := (hH : fx_H zA zs.heap H locs D [(h, .inr (9, [.int (nI now), .int (nI wk), .ref zcoins, .ref zdebt, .ref zfines, .ref zreading, .int (nI rk), .ref zruleYear, .ref zruleWhat, .ref zruleShare, .int (nI k), .ref zstate, .ref zholder, .ref zyearOf, .ref zusedIn, .ref zprojectOf, .ref zwent, .int ii, .int (nI bk), .ref zbidWorks, .ref zbidMany, .ref zbidPrice, .int ac, .int (nI pj), .ref zisFalse, .ref zcutMany, .ref ztonnes, .ref zcosts, .ref zgiven, .ref zcutOff, .ref zgot, .ref zcutsOf, .int sm, .int mg])), (zstate, .inl (cI, 4000, .inl ST)), (zholder, .inl (cI, 4000, .inl HO))])
    refine lv_if_eq (tgt := 22) zx zy dX9_cancel_5 (by decide) (fun c5 => ?_) (fun c5 => ?_)
    · skip
      refine lv_iconst (v := 0) zx zy dX9_cancel_22 (by decide) ?_
      exact fx_iret (v := 0) hQ hC hr hlk hH dX9_cancel_23 rfl (Nat.le_of_ble_eq_true rfl) (Nat.le_of_ble_eq_true rfl) (ST) rfl (Or.inr ⟨fun j m z => by first | exact hg2 ⟨j, z.1, z.2.1⟩ | exact absurd c10 (by rw [z.2.2.2.2]; exact nI_nlt (b := 1) z.2.2.1 (by have := cntP_le (hW ST HO (j + 1)) k; omega)) | exact hno ⟨m, z.2.2.1, by rw [(nI_eq (by omega) (by omega)).mp z.2.1]; exact z.2.2.2.1, z.2.2.2.2⟩, rfl, rfl⟩)
    · exact absurd c5 (by decide)
set_option maxHeartbeats 4000000 in
set_option maxRecDepth 100000 in
theorem k_X9_permit (l : Launch) (D : va_G) (cI cZ : ClassId) (h : Nat) (zcoins : Nat) (zdebt : Nat) (zfines : Nat) (zreading : Nat) (zruleYear : Nat) (zruleWhat : Nat) (zruleShare : Nat) (zstate : Nat) (zholder : Nat) (zyearOf : Nat) (zusedIn : Nat) (zprojectOf : Nat) (zwent : Nat) (zbidWorks : Nat) (zbidMany : Nat) (zbidPrice : Nat) (zisFalse : Nat) (zcutMany : Nat) (ztonnes : Nat) (zcosts : Nat) (zgiven : Nat) (zcutOff : Nat) (zgot : Nat) (zcutsOf : Nat) (now : Nat) (wk : Nat) (rk : Nat) (k : Nat) (ii : Int32) (bk : Nat) (ac : Int32) (pj : Nat) (sm : Int32) (mg : Int32) (ST : Nat → Int32) (HO : Nat → Int32) (YO : Nat → Int32) (UI : Nat → Int32) (PO : Nat → Int32) (WE : Nat → Int32) (x : Int32) (t : Int32) (hk4 : k ≤ 4000) : fx_CI l D cI cZ yX9_permit wsX9_permit ({ frames := 1, cells := 0, slots := 0, locals := 22 }) [.ref h, .int x, .int t] [(h, .inr (9, [.int (nI now), .int (nI wk), .ref zcoins, .ref zdebt, .ref zfines, .ref zreading, .int (nI rk), .ref zruleYear, .ref zruleWhat, .ref zruleShare, .int (nI k), .ref zstate, .ref zholder, .ref zyearOf, .ref zusedIn, .ref zprojectOf, .ref zwent, .int ii, .int (nI bk), .ref zbidWorks, .ref zbidMany, .ref zbidPrice, .int ac, .int (nI pj), .ref zisFalse, .ref zcutMany, .ref ztonnes, .ref zcosts, .ref zgiven, .ref zcutOff, .ref zgot, .ref zcutsOf, .int sm, .int mg])), (zstate, .inl (cI, 4000, .inl ST)), (zholder, .inl (cI, 4000, .inl HO)), (zyearOf, .inl (cI, 4000, .inl YO)), (zusedIn, .inl (cI, 4000, .inl UI)), (zprojectOf, .inl (cI, 4000, .inl PO)), (zwent, .inl (cI, 4000, .inl WE))] (fun (u : Unit) => [(h, .inr (9, [.int (nI now), .int (nI wk), .ref zcoins, .ref zdebt, .ref zfines, .ref zreading, .int (nI rk), .ref zruleYear, .ref zruleWhat, .ref zruleShare, .int (nI k), .ref zstate, .ref zholder, .ref zyearOf, .ref zusedIn, .ref zprojectOf, .ref zwent, .int ii, .int (nI bk), .ref zbidWorks, .ref zbidMany, .ref zbidPrice, .int ac, .int (nI pj), .ref zisFalse, .ref zcutMany, .ref ztonnes, .ref zcosts, .ref zgiven, .ref zcutOff, .ref zgot, .ref zcutsOf, .int sm, .int mg])), (zstate, .inl (cI, 4000, .inl ST)), (zholder, .inl (cI, 4000, .inl HO)), (zyearOf, .inl (cI, 4000, .inl YO)), (zusedIn, .inl (cI, 4000, .inl UI)), (zprojectOf, .inl (cI, 4000, .inl PO)), (zwent, .inl (cI, 4000, .inl WE))]) (fun (r : Int32) (u : Unit) => (∃ j, (j < k ∧ x = nI j) ∧ r = pmF (if ST j = 3 then 2 else ST j) (HO j) (YO j) (UI j) (PO j) (WE j) t) ∨ ((¬ ∃ j, j < k ∧ x = nI j) ∧ r = -2147483648)) := by
  refine fx_CI.of (ws' := (wsX9_permit).tail) cX9_permit 3 (by decide) rfl (Nat.le_of_ble_eq_true rfl) ?_
  intro zp ze zs zm za zb zt zc zA ls zQ hQ hC hr hlk hA hH hl
  have zx := hC.1.1
  have zy := hC.1.2.1
  have hl : lv_has ls 3 [(0, .ref h), (1, .int x), (2, .int t)] := hl
  refine lv_iload_n zx zy dX9_permit_0 rfl (lv_at hl 1 rfl) ?_
  refine lv_iconst (v := 0) zx zy dX9_permit_1 (by decide) ?_
  refine lv_aload_n zx zy dX9_permit_2 rfl (lv_at hl 0 rfl) ?_
  refine fx_get (C := RX9) (T := TX9) (N := 34) hC (fun _ h => List.mem_cons_of_mem _ (List.mem_append_right _ h)) hH 0 rfl rfl 10 (by decide) (by decide +kernel) rfl dX9_permit_3 ?_
  refine lv_iconst (v := 1) zx zy dX9_permit_6 (by decide) ?_
  refine lv_isub zx zy dX9_permit_7 ?_
  refine fx_cSi (n := 3) (As := [.int x, .int 0, .int ((nI k) - 1)]) (rest := []) hC hA hH (k_X9_in l D cI cZ x 0 ((nI k) - 1)) ⟨rfl, rfl⟩ rfl gX9_permit_X9_in (by decide +kernel) ⟨Nat.le_of_ble_eq_true rfl, Nat.le_of_ble_eq_true rfl⟩ rfl rfl hl.1 (Nat.le_of_ble_eq_true rfl) ⟨(Nat.le_of_ble_eq_true rfl), (Nat.le_of_ble_eq_true rfl)⟩ dX9_permit_8 (fun r1 H locs hw8 hH => ?_)
  rcases hw8 with ⟨hg8, rfl⟩ | ⟨hg8, rfl⟩
  · skip
    have hH := (hH : fx_H zA zs.heap H locs D [(h, .inr (9, [.int (nI now), .int (nI wk), .ref zcoins, .ref zdebt, .ref zfines, .ref zreading, .int (nI rk), .ref zruleYear, .ref zruleWhat, .ref zruleShare, .int (nI k), .ref zstate, .ref zholder, .ref zyearOf, .ref zusedIn, .ref zprojectOf, .ref zwent, .int ii, .int (nI bk), .ref zbidWorks, .ref zbidMany, .ref zbidPrice, .int ac, .int (nI pj), .ref zisFalse, .ref zcutMany, .ref ztonnes, .ref zcosts, .ref zgiven, .ref zcutOff, .ref zgot, .ref zcutsOf, .int sm, .int mg])), (zstate, .inl (cI, 4000, .inl ST)), (zholder, .inl (cI, 4000, .inl HO)), (zyearOf, .inl (cI, 4000, .inl YO)), (zusedIn, .inl (cI, 4000, .inl UI)), (zprojectOf, .inl (cI, 4000, .inl PO)), (zwent, .inl (cI, 4000, .inl WE))])
    obtain ⟨q8, hq8, rfl⟩ := w_inK (by omega) hg8.1 hg8.2
    have hl := (hl : lv_has ls 3 [(0, .ref h), (1, .int (nI q8)), (2, .int t)])
    refine lv_if_ne (tgt := 17) zx zy dX9_permit_11 (by decide) (fun c11 => ?_) (fun c11 => ?_)
    · skip
      refine lv_iload_n zx zy dX9_permit_17 rfl (lv_at hl 2 rfl) ?_
      by_cases t18_0 : t = 0
      · refine lv_tableIn (off := 38) (tgt := 56) zx zy dX9_permit_18 (by rw [t18_0]; decide) (by rw [t18_0]; decide) (by rw [t18_0]; rfl) (by decide) ?_
        refine lv_aload_n zx zy dX9_permit_56 rfl (lv_at hl 0 rfl) ?_
        refine fx_get (C := RX9) (T := TX9) (N := 34) hC (fun _ h => List.mem_cons_of_mem _ (List.mem_append_right _ h)) hH 0 rfl rfl 11 (by decide) (by decide +kernel) rfl dX9_permit_57 ?_
        refine lv_iload_n zx zy dX9_permit_60 rfl (lv_at hl 1 rfl) ?_
        refine fx_ild hC hH 1 rfl (vp_in_nI (by omega) (by omega)) dX9_permit_61 ?_
        refine lv_topi (fun v2 ev2 => ?_)
        obtain rfl : v2 = ST q8 := ev2.trans (congrArg ST (nI_clamp (by omega)))
        refine lv_iconst (v := 3) zx zy dX9_permit_62 (by decide) ?_
        refine lv_icmp_ne (tgt := 70) zx zy dX9_permit_63 (by decide) (fun c63 => ?_) (fun c63 => ?_)
        · skip
          refine lv_aload_n zx zy dX9_permit_70 rfl (lv_at hl 0 rfl) ?_
          refine fx_get (C := RX9) (T := TX9) (N := 34) hC (fun _ h => List.mem_cons_of_mem _ (List.mem_append_right _ h)) hH 0 rfl rfl 11 (by decide) (by decide +kernel) rfl dX9_permit_71 ?_
          refine lv_iload_n zx zy dX9_permit_74 rfl (lv_at hl 1 rfl) ?_
          refine fx_ild hC hH 1 rfl (vp_in_nI (by omega) (by omega)) dX9_permit_75 ?_
          refine lv_topi (fun v3 ev3 => ?_)
          obtain rfl : v3 = ST q8 := ev3.trans (congrArg ST (nI_clamp (by omega)))
          exact fx_iret (v := ST q8) hQ hC hr hlk hH dX9_permit_76 rfl (Nat.le_of_ble_eq_true rfl) (Nat.le_of_ble_eq_true rfl) (()) rfl (Or.inl ⟨q8, ⟨hq8, rfl⟩, by rw [t18_0]; first | exact (if_pos c63).symm | exact (if_neg c63).symm⟩)
        · skip
          refine lv_iconst (v := 2) zx zy dX9_permit_66 (by decide) ?_
          refine lv_goto (tgt := 76) zx zy dX9_permit_67 (by decide) ?_
          exact fx_iret (v := 2) hQ hC hr hlk hH dX9_permit_76 rfl (Nat.le_of_ble_eq_true rfl) (Nat.le_of_ble_eq_true rfl) (()) rfl (Or.inl ⟨q8, ⟨hq8, rfl⟩, by rw [t18_0]; first | exact (if_pos c63).symm | exact (if_neg c63).symm⟩)
      by_cases t18_1 : t = 1
      · refine lv_tableIn (off := 59) (tgt := 77) zx zy dX9_permit_18 (by rw [t18_1]; decide) (by rw [t18_1]; decide) (by rw [t18_1]; rfl) (by decide) ?_
        refine lv_aload_n zx zy dX9_permit_77 rfl (lv_at hl 0 rfl) ?_
        refine fx_get (C := RX9) (T := TX9) (N := 34) hC (fun _ h => List.mem_cons_of_mem _ (List.mem_append_right _ h)) hH 0 rfl rfl 12 (by decide) (by decide +kernel) rfl dX9_permit_78 ?_
        refine lv_iload_n zx zy dX9_permit_81 rfl (lv_at hl 1 rfl) ?_
        refine fx_ild hC hH 2 rfl (vp_in_nI (by omega) (by omega)) dX9_permit_82 ?_
        refine lv_topi (fun v4 ev4 => ?_)
        obtain rfl : v4 = HO q8 := ev4.trans (congrArg HO (nI_clamp (by omega)))
        exact fx_iret (v := HO q8) hQ hC hr hlk hH dX9_permit_83 rfl (Nat.le_of_ble_eq_true rfl) (Nat.le_of_ble_eq_true rfl) (()) rfl (Or.inl ⟨q8, ⟨hq8, rfl⟩, by rw [t18_1]; rfl⟩)
      by_cases t18_2 : t = 2
      · refine lv_tableIn (off := 66) (tgt := 84) zx zy dX9_permit_18 (by rw [t18_2]; decide) (by rw [t18_2]; decide) (by rw [t18_2]; rfl) (by decide) ?_
        refine lv_aload_n zx zy dX9_permit_84 rfl (lv_at hl 0 rfl) ?_
        refine fx_get (C := RX9) (T := TX9) (N := 34) hC (fun _ h => List.mem_cons_of_mem _ (List.mem_append_right _ h)) hH 0 rfl rfl 13 (by decide) (by decide +kernel) rfl dX9_permit_85 ?_
        refine lv_iload_n zx zy dX9_permit_88 rfl (lv_at hl 1 rfl) ?_
        refine fx_ild hC hH 3 rfl (vp_in_nI (by omega) (by omega)) dX9_permit_89 ?_
        refine lv_topi (fun v5 ev5 => ?_)
        obtain rfl : v5 = YO q8 := ev5.trans (congrArg YO (nI_clamp (by omega)))
        exact fx_iret (v := YO q8) hQ hC hr hlk hH dX9_permit_90 rfl (Nat.le_of_ble_eq_true rfl) (Nat.le_of_ble_eq_true rfl) (()) rfl (Or.inl ⟨q8, ⟨hq8, rfl⟩, by rw [t18_2]; rfl⟩)
      by_cases t18_3 : t = 3
      · refine lv_tableIn (off := 73) (tgt := 91) zx zy dX9_permit_18 (by rw [t18_3]; decide) (by rw [t18_3]; decide) (by rw [t18_3]; rfl) (by decide) ?_
        refine lv_aload_n zx zy dX9_permit_91 rfl (lv_at hl 0 rfl) ?_
        refine fx_get (C := RX9) (T := TX9) (N := 34) hC (fun _ h => List.mem_cons_of_mem _ (List.mem_append_right _ h)) hH 0 rfl rfl 14 (by decide) (by decide +kernel) rfl dX9_permit_92 ?_
        refine lv_iload_n zx zy dX9_permit_95 rfl (lv_at hl 1 rfl) ?_
        refine fx_ild hC hH 4 rfl (vp_in_nI (by omega) (by omega)) dX9_permit_96 ?_
        refine lv_topi (fun v6 ev6 => ?_)
        obtain rfl : v6 = UI q8 := ev6.trans (congrArg UI (nI_clamp (by omega)))
        exact fx_iret (v := UI q8) hQ hC hr hlk hH dX9_permit_97 rfl (Nat.le_of_ble_eq_true rfl) (Nat.le_of_ble_eq_true rfl) (()) rfl (Or.inl ⟨q8, ⟨hq8, rfl⟩, by rw [t18_3]; rfl⟩)
      by_cases t18_4 : t = 4
      · refine lv_tableIn (off := 80) (tgt := 98) zx zy dX9_permit_18 (by rw [t18_4]; decide) (by rw [t18_4]; decide) (by rw [t18_4]; rfl) (by decide) ?_
        refine lv_aload_n zx zy dX9_permit_98 rfl (lv_at hl 0 rfl) ?_
        refine fx_get (C := RX9) (T := TX9) (N := 34) hC (fun _ h => List.mem_cons_of_mem _ (List.mem_append_right _ h)) hH 0 rfl rfl 15 (by decide) (by decide +kernel) rfl dX9_permit_99 ?_
        refine lv_iload_n zx zy dX9_permit_102 rfl (lv_at hl 1 rfl) ?_
        refine fx_ild hC hH 5 rfl (vp_in_nI (by omega) (by omega)) dX9_permit_103 ?_
        refine lv_topi (fun v7 ev7 => ?_)
        obtain rfl : v7 = PO q8 := ev7.trans (congrArg PO (nI_clamp (by omega)))
        exact fx_iret (v := PO q8) hQ hC hr hlk hH dX9_permit_104 rfl (Nat.le_of_ble_eq_true rfl) (Nat.le_of_ble_eq_true rfl) (()) rfl (Or.inl ⟨q8, ⟨hq8, rfl⟩, by rw [t18_4]; rfl⟩)
      by_cases t18_5 : t = 5
      · refine lv_tableIn (off := 87) (tgt := 105) zx zy dX9_permit_18 (by rw [t18_5]; decide) (by rw [t18_5]; decide) (by rw [t18_5]; rfl) (by decide) ?_
        refine lv_aload_n zx zy dX9_permit_105 rfl (lv_at hl 0 rfl) ?_
        refine fx_get (C := RX9) (T := TX9) (N := 34) hC (fun _ h => List.mem_cons_of_mem _ (List.mem_append_right _ h)) hH 0 rfl rfl 16 (by decide) (by decide +kernel) rfl dX9_permit_106 ?_
        refine lv_iload_n zx zy dX9_permit_109 rfl (lv_at hl 1 rfl) ?_
        refine fx_ild hC hH 6 rfl (vp_in_nI (by omega) (by omega)) dX9_permit_110 ?_
        refine lv_topi (fun v8 ev8 => ?_)
        obtain rfl : v8 = WE q8 := ev8.trans (congrArg WE (nI_clamp (by omega)))
        exact fx_iret (v := WE q8) hQ hC hr hlk hH dX9_permit_111 rfl (Nat.le_of_ble_eq_true rfl) (Nat.le_of_ble_eq_true rfl) (()) rfl (Or.inl ⟨q8, ⟨hq8, rfl⟩, by rw [t18_5]; rfl⟩)
      refine lv_tableOut (tgt := 112) zx zy dX9_permit_18 (by have n0 := lv_neT (a := 0) t18_0 rfl; have n1 := lv_neT (a := 1) t18_1 rfl; have n2 := lv_neT (a := 2) t18_2 rfl; have n3 := lv_neT (a := 3) t18_3 rfl; have n4 := lv_neT (a := 4) t18_4 rfl; have n5 := lv_neT (a := 5) t18_5 rfl; omega) (by decide) ?_
      refine lv_ldc (own := RX9) (v := (-2147483648)) zx zy hC.1.2.2.2.1 (hC.1.2.2.2.2 _ (by decide +kernel)) dX9_permit_112 ?_
      exact fx_iret (v := (-2147483648)) hQ hC hr hlk hH dX9_permit_114 rfl (Nat.le_of_ble_eq_true rfl) (Nat.le_of_ble_eq_true rfl) (()) rfl (Or.inl ⟨q8, ⟨hq8, rfl⟩, (pmF_else t18_0 t18_1 t18_2 t18_3 t18_4 t18_5).symm⟩)
    · exact absurd c11 (by decide)
  · skip
    have hH := (hH : fx_H zA zs.heap H locs D [(h, .inr (9, [.int (nI now), .int (nI wk), .ref zcoins, .ref zdebt, .ref zfines, .ref zreading, .int (nI rk), .ref zruleYear, .ref zruleWhat, .ref zruleShare, .int (nI k), .ref zstate, .ref zholder, .ref zyearOf, .ref zusedIn, .ref zprojectOf, .ref zwent, .int ii, .int (nI bk), .ref zbidWorks, .ref zbidMany, .ref zbidPrice, .int ac, .int (nI pj), .ref zisFalse, .ref zcutMany, .ref ztonnes, .ref zcosts, .ref zgiven, .ref zcutOff, .ref zgot, .ref zcutsOf, .int sm, .int mg])), (zstate, .inl (cI, 4000, .inl ST)), (zholder, .inl (cI, 4000, .inl HO)), (zyearOf, .inl (cI, 4000, .inl YO)), (zusedIn, .inl (cI, 4000, .inl UI)), (zprojectOf, .inl (cI, 4000, .inl PO)), (zwent, .inl (cI, 4000, .inl WE))])
    refine lv_if_ne (tgt := 17) zx zy dX9_permit_11 (by decide) (fun c11 => ?_) (fun c11 => ?_)
    · exact absurd c11 (by decide)
    · skip
      refine lv_ldc (own := RX9) (v := (-2147483648)) zx zy hC.1.2.2.2.1 (hC.1.2.2.2.2 _ (by decide +kernel)) dX9_permit_14 ?_
      exact fx_iret (v := (-2147483648)) hQ hC hr hlk hH dX9_permit_16 rfl (Nat.le_of_ble_eq_true rfl) (Nat.le_of_ble_eq_true rfl) (()) rfl (Or.inr ⟨w_outK (by omega) hg8, rfl⟩)
set_option maxHeartbeats 4000000 in
set_option maxRecDepth 100000 in
theorem k_X9_countOf (l : Launch) (D : va_G) (cI cZ : ClassId) (h : Nat) (zcoins : Nat) (zdebt : Nat) (zfines : Nat) (zreading : Nat) (zruleYear : Nat) (zruleWhat : Nat) (zruleShare : Nat) (zstate : Nat) (zholder : Nat) (zyearOf : Nat) (zusedIn : Nat) (zprojectOf : Nat) (zwent : Nat) (zbidWorks : Nat) (zbidMany : Nat) (zbidPrice : Nat) (zisFalse : Nat) (zcutMany : Nat) (ztonnes : Nat) (zcosts : Nat) (zgiven : Nat) (zcutOff : Nat) (zgot : Nat) (zcutsOf : Nat) (now : Nat) (wk : Nat) (rk : Nat) (k : Nat) (ii : Int32) (bk : Nat) (ac : Int32) (pj : Nat) (sm : Int32) (mg : Int32) (ST : Nat → Int32) (HO : Nat → Int32) (v : Int32) (who : Int32) (hk4 : k ≤ 4000) : fx_CI l D cI cZ yX9_countOf wsX9_countOf ({ frames := 0, cells := 0, slots := 0, locals := 0 }) [.ref h, .int v, .int who] [(h, .inr (9, [.int (nI now), .int (nI wk), .ref zcoins, .ref zdebt, .ref zfines, .ref zreading, .int (nI rk), .ref zruleYear, .ref zruleWhat, .ref zruleShare, .int (nI k), .ref zstate, .ref zholder, .ref zyearOf, .ref zusedIn, .ref zprojectOf, .ref zwent, .int ii, .int (nI bk), .ref zbidWorks, .ref zbidMany, .ref zbidPrice, .int ac, .int (nI pj), .ref zisFalse, .ref zcutMany, .ref ztonnes, .ref zcosts, .ref zgiven, .ref zcutOff, .ref zgot, .ref zcutsOf, .int sm, .int mg])), (zstate, .inl (cI, 4000, .inl ST)), (zholder, .inl (cI, 4000, .inl HO))] (fun (u : Unit) => [(h, .inr (9, [.int (nI now), .int (nI wk), .ref zcoins, .ref zdebt, .ref zfines, .ref zreading, .int (nI rk), .ref zruleYear, .ref zruleWhat, .ref zruleShare, .int (nI k), .ref zstate, .ref zholder, .ref zyearOf, .ref zusedIn, .ref zprojectOf, .ref zwent, .int ii, .int (nI bk), .ref zbidWorks, .ref zbidMany, .ref zbidPrice, .int ac, .int (nI pj), .ref zisFalse, .ref zcutMany, .ref ztonnes, .ref zcosts, .ref zgiven, .ref zcutOff, .ref zgot, .ref zcutsOf, .int sm, .int mg])), (zstate, .inl (cI, 4000, .inl ST)), (zholder, .inl (cI, 4000, .inl HO))]) (fun (r : Int32) (u : Unit) => r = nI (cntP (cOf ST HO v who) k)) := by
  refine fx_CI.of (ws' := (wsX9_countOf).tail) cX9_countOf 5 (by decide) rfl (Nat.le_of_ble_eq_true rfl) ?_
  intro zp ze zs zm za zb zt zc zA ls zQ hQ hC hr hlk hA hH hl
  have zx := hC.1.1
  have zy := hC.1.2.1
  have hl : lv_has ls 5 [(0, .ref h), (1, .int v), (2, .int who)] := hl
  refine lv_iconst (v := 0) zx zy dX9_countOf_0 (by decide) ?_
  refine lv_istore_n (lv' := [(3, .int 0), (0, .ref h), (1, .int v), (2, .int who)]) zx zy dX9_countOf_1 rfl hl (by decide) rfl (fun ls hl => ?_)
  refine lv_iconst (v := 0) zx zy dX9_countOf_2 (by decide) ?_
  refine lv_topi (fun v1 ev1 => ?_)
  obtain rfl : v1 = nI 0 := ev1.trans (rfl)
  refine lv_istore (lv' := [(4, .int (nI 0)), (3, .int 0), (0, .ref h), (1, .int v), (2, .int who)]) zx zy dX9_countOf_3 hl (by decide) rfl (fun ls hl => ?_)
  have L5 : ∀ (fu : Nat) (i : Nat) (n : Int32) (hi : i ≤ k) (hn : n = nI (cntP (cOf ST HO v who) i)) (H : Heap) (locs : List Loc) (ls : Array Slot), k - i < fu → fx_H zA zs.heap H locs D [(h, .inr (9, [.int (nI now), .int (nI wk), .ref zcoins, .ref zdebt, .ref zfines, .ref zreading, .int (nI rk), .ref zruleYear, .ref zruleWhat, .ref zruleShare, .int (nI k), .ref zstate, .ref zholder, .ref zyearOf, .ref zusedIn, .ref zprojectOf, .ref zwent, .int ii, .int (nI bk), .ref zbidWorks, .ref zbidMany, .ref zbidPrice, .int ac, .int (nI pj), .ref zisFalse, .ref zcutMany, .ref ztonnes, .ref zcosts, .ref zgiven, .ref zcutOff, .ref zgot, .ref zcutsOf, .int sm, .int mg])), (zstate, .inl (cI, 4000, .inl ST)), (zholder, .inl (cI, 4000, .inl HO))] → lv_has ls 5 [(0, .ref h), (1, .int v), (2, .int who), (3, .int n), (4, .int (nI i))] → W zp l ze ({ frames := 0, cells := 0, slots := 0, locals := 0 }) zs zm za zb zt zc H locs (0) (0) zQ (F0 zm 5 ls []) := by
    intro fu
    induction fu with
    | zero => intro i n hi hn H locs ls hfu; exact absurd hfu (Nat.not_lt_zero _)
    | succ fu ih5 =>
      intro i n hi hn H locs ls hfu5 hH hl
      refine lv_iload zx zy dX9_countOf_5 (lv_at hl 4 rfl) ?_
      refine lv_aload_n zx zy dX9_countOf_7 rfl (lv_at hl 0 rfl) ?_
      refine fx_get (C := RX9) (T := TX9) (N := 34) hC (fun _ h => List.mem_cons_of_mem _ (List.mem_append_right _ h)) hH 0 rfl rfl 10 (by decide) (by decide +kernel) rfl dX9_countOf_8 ?_
      refine lv_icmp_ge (tgt := 56) zx zy dX9_countOf_11 (by decide) (fun c11 => ?_) (fun c11 => ?_)
      · skip
        refine lv_iload_n zx zy dX9_countOf_56 rfl (lv_at hl 3 rfl) ?_
        exact fx_iret (v := n) hQ hC hr hlk hH dX9_countOf_57 rfl (Nat.le_of_ble_eq_true rfl) (Nat.le_of_ble_eq_true rfl) (()) rfl (by rw [hn, Nat.le_antisymm hi (fx_le_of c11 (by omega) (by omega))])
      · skip
        have hlt : i < k := fx_lt_of c11 (by omega)
        refine lv_iload_n zx zy dX9_countOf_14 rfl (lv_at hl 3 rfl) ?_
        refine lv_aload_n zx zy dX9_countOf_15 rfl (lv_at hl 0 rfl) ?_
        refine fx_get (C := RX9) (T := TX9) (N := 34) hC (fun _ h => List.mem_cons_of_mem _ (List.mem_append_right _ h)) hH 0 rfl rfl 11 (by decide) (by decide +kernel) rfl dX9_countOf_16 ?_
        refine lv_iload zx zy dX9_countOf_19 (lv_at hl 4 rfl) ?_
        refine fx_ild hC hH 1 rfl (vp_in_nI (by omega) (by omega)) dX9_countOf_21 ?_
        refine lv_topi (fun v2 ev2 => ?_)
        obtain rfl : v2 = ST i := ev2.trans (congrArg ST (nI_clamp (by omega)))
        refine lv_iload_n zx zy dX9_countOf_22 rfl (lv_at hl 1 rfl) ?_
        refine lv_icmp_ne (tgt := 47) zx zy dX9_countOf_23 (by decide) (fun c23 => ?_) (fun c23 => ?_)
        · skip
          refine lv_iconst (v := 0) zx zy dX9_countOf_47 (by decide) ?_
          refine lv_iadd zx zy dX9_countOf_48 ?_
          refine lv_istore_n (lv' := [(3, .int (n + 0)), (0, .ref h), (1, .int v), (2, .int who), (4, .int (nI i))]) zx zy dX9_countOf_49 rfl hl (by decide) rfl (fun ls hl => ?_)
          refine lv_iinc (v := nI (i + 1)) (lv' := [(4, .int (nI (i + 1))), (3, .int (n + 0)), (0, .ref h), (1, .int v), (2, .int who)]) zx zy dX9_countOf_50 hl (k := 4) rfl (nI_1 _) (by decide) rfl (fun ls hl => ?_)
          refine lv_goto (tgt := 5) zx zy dX9_countOf_53 (by decide) ?_
          exact ih5 (i + 1) (n + 0) (by first | assumption | omega) (by rw [hn]; first | (rw [cnt_t (P := cOf ST HO v who) (decide_eq_true ⟨c23, Or.inl c29⟩)]; exact nI_1 _) | (rw [cnt_t (P := cOf ST HO v who) (decide_eq_true ⟨c23, Or.inr c40⟩)]; exact nI_1 _) | (rw [cnt_f (P := cOf ST HO v who) (decide_eq_false (fun z => c23 z.1))]; exact Int32.add_zero _) | (rw [cnt_f (P := cOf ST HO v who) (decide_eq_false (fun z => z.2.elim c29 c40))]; exact Int32.add_zero _)) _ _ _ (by omega) hH (lv_sub hl [2, 3, 4, 1, 0] rfl)
        · skip
          refine lv_iload_n zx zy dX9_countOf_26 rfl (lv_at hl 2 rfl) ?_
          refine lv_ldc (own := RX9) (v := (-2147483648)) zx zy hC.1.2.2.2.1 (hC.1.2.2.2.2 _ (by decide +kernel)) dX9_countOf_27 ?_
          refine lv_icmp_eq (tgt := 43) zx zy dX9_countOf_29 (by decide) (fun c29 => ?_) (fun c29 => ?_)
          · skip
            refine lv_iconst (v := 1) zx zy dX9_countOf_43 (by decide) ?_
            refine lv_goto (tgt := 48) zx zy dX9_countOf_44 (by decide) ?_
            refine lv_iadd zx zy dX9_countOf_48 ?_
            refine lv_istore_n (lv' := [(3, .int (n + 1)), (0, .ref h), (1, .int v), (2, .int who), (4, .int (nI i))]) zx zy dX9_countOf_49 rfl hl (by decide) rfl (fun ls hl => ?_)
            refine lv_iinc (v := nI (i + 1)) (lv' := [(4, .int (nI (i + 1))), (3, .int (n + 1)), (0, .ref h), (1, .int v), (2, .int who)]) zx zy dX9_countOf_50 hl (k := 4) rfl (nI_1 _) (by decide) rfl (fun ls hl => ?_)
            refine lv_goto (tgt := 5) zx zy dX9_countOf_53 (by decide) ?_
            exact ih5 (i + 1) (n + 1) (by first | assumption | omega) (by rw [hn]; first | (rw [cnt_t (P := cOf ST HO v who) (decide_eq_true ⟨c23, Or.inl c29⟩)]; exact nI_1 _) | (rw [cnt_t (P := cOf ST HO v who) (decide_eq_true ⟨c23, Or.inr c40⟩)]; exact nI_1 _) | (rw [cnt_f (P := cOf ST HO v who) (decide_eq_false (fun z => c23 z.1))]; exact Int32.add_zero _) | (rw [cnt_f (P := cOf ST HO v who) (decide_eq_false (fun z => z.2.elim c29 c40))]; exact Int32.add_zero _)) _ _ _ (by omega) hH (lv_sub hl [2, 3, 4, 1, 0] rfl)
          · skip
            refine lv_aload_n zx zy dX9_countOf_32 rfl (lv_at hl 0 rfl) ?_
            refine fx_get (C := RX9) (T := TX9) (N := 34) hC (fun _ h => List.mem_cons_of_mem _ (List.mem_append_right _ h)) hH 0 rfl rfl 12 (by decide) (by decide +kernel) rfl dX9_countOf_33 ?_
            refine lv_iload zx zy dX9_countOf_36 (lv_at hl 4 rfl) ?_
            refine fx_ild hC hH 2 rfl (vp_in_nI (by omega) (by omega)) dX9_countOf_38 ?_
            refine lv_topi (fun v3 ev3 => ?_)
            obtain rfl : v3 = HO i := ev3.trans (congrArg HO (nI_clamp (by omega)))
            refine lv_iload_n zx zy dX9_countOf_39 rfl (lv_at hl 2 rfl) ?_
            refine lv_icmp_ne (tgt := 47) zx zy dX9_countOf_40 (by decide) (fun c40 => ?_) (fun c40 => ?_)
            · skip
              refine lv_iconst (v := 0) zx zy dX9_countOf_47 (by decide) ?_
              refine lv_iadd zx zy dX9_countOf_48 ?_
              refine lv_istore_n (lv' := [(3, .int (n + 0)), (0, .ref h), (1, .int v), (2, .int who), (4, .int (nI i))]) zx zy dX9_countOf_49 rfl hl (by decide) rfl (fun ls hl => ?_)
              refine lv_iinc (v := nI (i + 1)) (lv' := [(4, .int (nI (i + 1))), (3, .int (n + 0)), (0, .ref h), (1, .int v), (2, .int who)]) zx zy dX9_countOf_50 hl (k := 4) rfl (nI_1 _) (by decide) rfl (fun ls hl => ?_)
              refine lv_goto (tgt := 5) zx zy dX9_countOf_53 (by decide) ?_
              exact ih5 (i + 1) (n + 0) (by first | assumption | omega) (by rw [hn]; first | (rw [cnt_t (P := cOf ST HO v who) (decide_eq_true ⟨c23, Or.inl c29⟩)]; exact nI_1 _) | (rw [cnt_t (P := cOf ST HO v who) (decide_eq_true ⟨c23, Or.inr c40⟩)]; exact nI_1 _) | (rw [cnt_f (P := cOf ST HO v who) (decide_eq_false (fun z => c23 z.1))]; exact Int32.add_zero _) | (rw [cnt_f (P := cOf ST HO v who) (decide_eq_false (fun z => z.2.elim c29 c40))]; exact Int32.add_zero _)) _ _ _ (by omega) hH (lv_sub hl [2, 3, 4, 1, 0] rfl)
            · skip
              refine lv_iconst (v := 1) zx zy dX9_countOf_43 (by decide) ?_
              refine lv_goto (tgt := 48) zx zy dX9_countOf_44 (by decide) ?_
              refine lv_iadd zx zy dX9_countOf_48 ?_
              refine lv_istore_n (lv' := [(3, .int (n + 1)), (0, .ref h), (1, .int v), (2, .int who), (4, .int (nI i))]) zx zy dX9_countOf_49 rfl hl (by decide) rfl (fun ls hl => ?_)
              refine lv_iinc (v := nI (i + 1)) (lv' := [(4, .int (nI (i + 1))), (3, .int (n + 1)), (0, .ref h), (1, .int v), (2, .int who)]) zx zy dX9_countOf_50 hl (k := 4) rfl (nI_1 _) (by decide) rfl (fun ls hl => ?_)
              refine lv_goto (tgt := 5) zx zy dX9_countOf_53 (by decide) ?_
              exact ih5 (i + 1) (n + 1) (by first | assumption | omega) (by rw [hn]; first | (rw [cnt_t (P := cOf ST HO v who) (decide_eq_true ⟨c23, Or.inl c29⟩)]; exact nI_1 _) | (rw [cnt_t (P := cOf ST HO v who) (decide_eq_true ⟨c23, Or.inr c40⟩)]; exact nI_1 _) | (rw [cnt_f (P := cOf ST HO v who) (decide_eq_false (fun z => c23 z.1))]; exact Int32.add_zero _) | (rw [cnt_f (P := cOf ST HO v who) (decide_eq_false (fun z => z.2.elim c29 c40))]; exact Int32.add_zero _)) _ _ _ (by omega) hH (lv_sub hl [2, 3, 4, 1, 0] rfl)
  exact L5 _ 0 0 (by first | assumption | omega) (rfl) _ _ _ (Nat.lt_succ_self _) hH (lv_sub hl [2, 3, 4, 1, 0] rfl)
set_option maxHeartbeats 4000000 in
set_option maxRecDepth 100000 in
theorem k_X9_told (l : Launch) (D : va_G) (cI cZ : ClassId) (h : Nat) (zcoins : Nat) (zdebt : Nat) (zfines : Nat) (zreading : Nat) (zruleYear : Nat) (zruleWhat : Nat) (zruleShare : Nat) (zstate : Nat) (zholder : Nat) (zyearOf : Nat) (zusedIn : Nat) (zprojectOf : Nat) (zwent : Nat) (zbidWorks : Nat) (zbidMany : Nat) (zbidPrice : Nat) (zisFalse : Nat) (zcutMany : Nat) (ztonnes : Nat) (zcosts : Nat) (zgiven : Nat) (zcutOff : Nat) (zgot : Nat) (zcutsOf : Nat) (now : Nat) (wk : Nat) (rk : Nat) (k : Nat) (ii : Int32) (bk : Nat) (ac : Int32) (pj : Nat) (sm : Int32) (mg : Int32) (CO : Nat → Int32) (DE : Nat → Int32) (FI : Nat → Int32) (ST : Nat → Int32) (HO : Nat → Int32) (x : Int32) (t : Int32) (hwk : wk ≤ 10) (hk4 : k ≤ 4000) : fx_CI l D cI cZ yX9_told wsX9_told ({ frames := 2, cells := 0, slots := 0, locals := 43 }) [.ref h, .int x, .int t] [(h, .inr (9, [.int (nI now), .int (nI wk), .ref zcoins, .ref zdebt, .ref zfines, .ref zreading, .int (nI rk), .ref zruleYear, .ref zruleWhat, .ref zruleShare, .int (nI k), .ref zstate, .ref zholder, .ref zyearOf, .ref zusedIn, .ref zprojectOf, .ref zwent, .int ii, .int (nI bk), .ref zbidWorks, .ref zbidMany, .ref zbidPrice, .int ac, .int (nI pj), .ref zisFalse, .ref zcutMany, .ref ztonnes, .ref zcosts, .ref zgiven, .ref zcutOff, .ref zgot, .ref zcutsOf, .int sm, .int mg])), (zcoins, .inl (cI, 10, .inl CO)), (zdebt, .inl (cI, 10, .inl DE)), (zfines, .inl (cI, 10, .inl FI)), (zstate, .inl (cI, 4000, .inl ST)), (zholder, .inl (cI, 4000, .inl HO))] (fun (u : Unit) => [(h, .inr (9, [.int (nI now), .int (nI wk), .ref zcoins, .ref zdebt, .ref zfines, .ref zreading, .int (nI rk), .ref zruleYear, .ref zruleWhat, .ref zruleShare, .int (nI k), .ref zstate, .ref zholder, .ref zyearOf, .ref zusedIn, .ref zprojectOf, .ref zwent, .int ii, .int (nI bk), .ref zbidWorks, .ref zbidMany, .ref zbidPrice, .int ac, .int (nI pj), .ref zisFalse, .ref zcutMany, .ref ztonnes, .ref zcosts, .ref zgiven, .ref zcutOff, .ref zgot, .ref zcutsOf, .int sm, .int mg])), (zcoins, .inl (cI, 10, .inl CO)), (zdebt, .inl (cI, 10, .inl DE)), (zfines, .inl (cI, 10, .inl FI)), (zstate, .inl (cI, 4000, .inl ST)), (zholder, .inl (cI, 4000, .inl HO))]) (fun (r : Int32) (u : Unit) => (∃ j, (j < wk ∧ x = nI j) ∧ r = (if t = 2 then nI (cntP (hW ST HO (j + 1)) k) else lgF (CO j) (DE j) (nI (cntP (cOf ST HO 1 (nI j)) k)) (FI j) t)) ∨ ((¬ ∃ j, j < wk ∧ x = nI j) ∧ r = -2147483648)) := by
  refine fx_CI.of (ws' := (wsX9_told).tail) cX9_told 3 (by decide) rfl (Nat.le_of_ble_eq_true rfl) ?_
  intro zp ze zs zm za zb zt zc zA ls zQ hQ hC hr hlk hA hH hl
  have zx := hC.1.1
  have zy := hC.1.2.1
  have hl : lv_has ls 3 [(0, .ref h), (1, .int x), (2, .int t)] := hl
  refine lv_aload_n zx zy dX9_told_0 rfl (lv_at hl 0 rfl) ?_
  refine lv_iload_n zx zy dX9_told_1 rfl (lv_at hl 1 rfl) ?_
  refine fx_cVi (n := 1) (As := [.int x]) (b := h) (rest := []) (fun (u : Unit) => [(h, .inr (9, [.int (nI now), .int (nI wk), .ref zcoins, .ref zdebt, .ref zfines, .ref zreading, .int (nI rk), .ref zruleYear, .ref zruleWhat, .ref zruleShare, .int (nI k), .ref zstate, .ref zholder, .ref zyearOf, .ref zusedIn, .ref zprojectOf, .ref zwent, .int ii, .int (nI bk), .ref zbidWorks, .ref zbidMany, .ref zbidPrice, .int ac, .int (nI pj), .ref zisFalse, .ref zcutMany, .ref ztonnes, .ref zcosts, .ref zgiven, .ref zcutOff, .ref zgot, .ref zcutsOf, .int sm, .int mg])), (zcoins, .inl (cI, 10, .inl CO)), (zdebt, .inl (cI, 10, .inl DE)), (zfines, .inl (cI, 10, .inl FI)), (zstate, .inl (cI, 4000, .inl ST)), (zholder, .inl (cI, 4000, .inl HO))]) hC hA hH (k_X9_isWorks l D cI cZ h zcoins zdebt zfines zreading zruleYear zruleWhat zruleShare zstate zholder zyearOf zusedIn zprojectOf zwent zbidWorks zbidMany zbidPrice zisFalse zcutMany ztonnes zcosts zgiven zcutOff zgot zcutsOf now wk rk k ii bk ac pj sm mg x (by first | assumption | omega)) [0] [1, 2, 3, 4, 5] [5, 0, 1, 2, 3, 4] [(zcoins, .inl (cI, 10, .inl CO)), (zdebt, .inl (cI, 10, .inl DE)), (zfines, .inl (cI, 10, .inl FI)), (zstate, .inl (cI, 4000, .inl ST)), (zholder, .inl (cI, 4000, .inl HO))] rfl rfl (by decide) (by decide) (fun _ => rfl) rfl gX9_told_X9_isWorks (by decide +kernel) ⟨Nat.le_of_ble_eq_true rfl, Nat.le_of_ble_eq_true rfl⟩ 0 rfl rfl rfl rfl rfl hl.1 (Nat.le_of_ble_eq_true rfl) ⟨Nat.le_of_ble_eq_true rfl, Nat.le_of_ble_eq_true rfl⟩ dX9_told_2 (fun r1 u H locs hw2 hH => ?_)
  rcases hw2 with ⟨⟨j2, hj2, rfl⟩, rfl⟩ | ⟨hg2, rfl⟩
  · skip
    have hH := (hH : fx_H zA zs.heap H locs D [(h, .inr (9, [.int (nI now), .int (nI wk), .ref zcoins, .ref zdebt, .ref zfines, .ref zreading, .int (nI rk), .ref zruleYear, .ref zruleWhat, .ref zruleShare, .int (nI k), .ref zstate, .ref zholder, .ref zyearOf, .ref zusedIn, .ref zprojectOf, .ref zwent, .int ii, .int (nI bk), .ref zbidWorks, .ref zbidMany, .ref zbidPrice, .int ac, .int (nI pj), .ref zisFalse, .ref zcutMany, .ref ztonnes, .ref zcosts, .ref zgiven, .ref zcutOff, .ref zgot, .ref zcutsOf, .int sm, .int mg])), (zcoins, .inl (cI, 10, .inl CO)), (zdebt, .inl (cI, 10, .inl DE)), (zfines, .inl (cI, 10, .inl FI)), (zstate, .inl (cI, 4000, .inl ST)), (zholder, .inl (cI, 4000, .inl HO))])
    have hl := (hl : lv_has ls 3 [(0, .ref h), (1, .int (nI j2)), (2, .int t)])
    refine lv_if_ne (tgt := 11) zx zy dX9_told_5 (by decide) (fun c5 => ?_) (fun c5 => ?_)
    · skip
      refine lv_iload_n zx zy dX9_told_11 rfl (lv_at hl 2 rfl) ?_
      by_cases t12_0 : t = 0
      · refine lv_tableIn (off := 36) (tgt := 48) zx zy dX9_told_12 (by rw [t12_0]; decide) (by rw [t12_0]; decide) (by rw [t12_0]; rfl) (by decide) ?_
        refine lv_aload_n zx zy dX9_told_48 rfl (lv_at hl 0 rfl) ?_
        refine fx_get (C := RX9) (T := TX9) (N := 34) hC (fun _ h => List.mem_cons_of_mem _ (List.mem_append_right _ h)) hH 0 rfl rfl 2 (by decide) (by decide +kernel) rfl dX9_told_49 ?_
        refine lv_iload_n zx zy dX9_told_52 rfl (lv_at hl 1 rfl) ?_
        refine fx_ild hC hH 1 rfl (vp_in_nI (by omega) (by omega)) dX9_told_53 ?_
        refine lv_topi (fun v2 ev2 => ?_)
        obtain rfl : v2 = CO j2 := ev2.trans (congrArg CO (nI_clamp (by omega)))
        exact fx_iret (v := CO j2) hQ hC hr hlk hH dX9_told_54 rfl (Nat.le_of_ble_eq_true rfl) (Nat.le_of_ble_eq_true rfl) (()) rfl (Or.inl ⟨j2, ⟨hj2, rfl⟩, by rw [t12_0]; rfl⟩)
      by_cases t12_1 : t = 1
      · refine lv_tableIn (off := 43) (tgt := 55) zx zy dX9_told_12 (by rw [t12_1]; decide) (by rw [t12_1]; decide) (by rw [t12_1]; rfl) (by decide) ?_
        refine lv_aload_n zx zy dX9_told_55 rfl (lv_at hl 0 rfl) ?_
        refine fx_get (C := RX9) (T := TX9) (N := 34) hC (fun _ h => List.mem_cons_of_mem _ (List.mem_append_right _ h)) hH 0 rfl rfl 3 (by decide) (by decide +kernel) rfl dX9_told_56 ?_
        refine lv_iload_n zx zy dX9_told_59 rfl (lv_at hl 1 rfl) ?_
        refine fx_ild hC hH 2 rfl (vp_in_nI (by omega) (by omega)) dX9_told_60 ?_
        refine lv_topi (fun v3 ev3 => ?_)
        obtain rfl : v3 = DE j2 := ev3.trans (congrArg DE (nI_clamp (by omega)))
        exact fx_iret (v := DE j2) hQ hC hr hlk hH dX9_told_61 rfl (Nat.le_of_ble_eq_true rfl) (Nat.le_of_ble_eq_true rfl) (()) rfl (Or.inl ⟨j2, ⟨hj2, rfl⟩, by rw [t12_1]; rfl⟩)
      by_cases t12_2 : t = 2
      · refine lv_tableIn (off := 50) (tgt := 62) zx zy dX9_told_12 (by rw [t12_2]; decide) (by rw [t12_2]; decide) (by rw [t12_2]; rfl) (by decide) ?_
        refine lv_aload_n zx zy dX9_told_62 rfl (lv_at hl 0 rfl) ?_
        refine lv_iload_n zx zy dX9_told_63 rfl (lv_at hl 1 rfl) ?_
        refine fx_cVi (n := 1) (As := [.int (nI j2)]) (b := h) (rest := []) (fun (u : Unit) => [(h, .inr (9, [.int (nI now), .int (nI wk), .ref zcoins, .ref zdebt, .ref zfines, .ref zreading, .int (nI rk), .ref zruleYear, .ref zruleWhat, .ref zruleShare, .int (nI k), .ref zstate, .ref zholder, .ref zyearOf, .ref zusedIn, .ref zprojectOf, .ref zwent, .int ii, .int (nI bk), .ref zbidWorks, .ref zbidMany, .ref zbidPrice, .int ac, .int (nI pj), .ref zisFalse, .ref zcutMany, .ref ztonnes, .ref zcosts, .ref zgiven, .ref zcutOff, .ref zgot, .ref zcutsOf, .int sm, .int mg])), (zcoins, .inl (cI, 10, .inl CO)), (zdebt, .inl (cI, 10, .inl DE)), (zfines, .inl (cI, 10, .inl FI)), (zstate, .inl (cI, 4000, .inl ST)), (zholder, .inl (cI, 4000, .inl HO))]) hC hA hH (k_X9_holds l D cI cZ h zcoins zdebt zfines zreading zruleYear zruleWhat zruleShare zstate zholder zyearOf zusedIn zprojectOf zwent zbidWorks zbidMany zbidPrice zisFalse zcutMany ztonnes zcosts zgiven zcutOff zgot zcutsOf now wk rk k ii bk ac pj sm mg ST HO (nI j2) (j2 + 1) (nI_1 j2) (by omega) (by first | assumption | omega)) [0, 4, 5] [1, 2, 3] [3, 0, 1, 2, 4, 5] [(zcoins, .inl (cI, 10, .inl CO)), (zdebt, .inl (cI, 10, .inl DE)), (zfines, .inl (cI, 10, .inl FI))] rfl rfl (by decide) (by decide) (fun _ => rfl) rfl gX9_told_X9_holds (by decide +kernel) ⟨Nat.le_of_ble_eq_true rfl, Nat.le_of_ble_eq_true rfl⟩ 0 rfl rfl rfl rfl rfl hl.1 (Nat.le_of_ble_eq_true rfl) ⟨Nat.le_of_ble_eq_true rfl, Nat.le_of_ble_eq_true rfl⟩ dX9_told_64 (fun r4 u H locs hw64 hH => ?_)
        obtain rfl : r4 = nI (cntP (hW ST HO (j2 + 1)) k) := hw64
        have hH := (hH : fx_H zA zs.heap H locs D [(h, .inr (9, [.int (nI now), .int (nI wk), .ref zcoins, .ref zdebt, .ref zfines, .ref zreading, .int (nI rk), .ref zruleYear, .ref zruleWhat, .ref zruleShare, .int (nI k), .ref zstate, .ref zholder, .ref zyearOf, .ref zusedIn, .ref zprojectOf, .ref zwent, .int ii, .int (nI bk), .ref zbidWorks, .ref zbidMany, .ref zbidPrice, .int ac, .int (nI pj), .ref zisFalse, .ref zcutMany, .ref ztonnes, .ref zcosts, .ref zgiven, .ref zcutOff, .ref zgot, .ref zcutsOf, .int sm, .int mg])), (zcoins, .inl (cI, 10, .inl CO)), (zdebt, .inl (cI, 10, .inl DE)), (zfines, .inl (cI, 10, .inl FI)), (zstate, .inl (cI, 4000, .inl ST)), (zholder, .inl (cI, 4000, .inl HO))])
        exact fx_iret (v := nI (cntP (hW ST HO (j2 + 1)) k)) hQ hC hr hlk hH dX9_told_67 rfl (Nat.le_of_ble_eq_true rfl) (Nat.le_of_ble_eq_true rfl) (()) rfl (Or.inl ⟨j2, ⟨hj2, rfl⟩, (if_pos t12_2).symm⟩)
      by_cases t12_3 : t = 3
      · refine lv_tableIn (off := 56) (tgt := 68) zx zy dX9_told_12 (by rw [t12_3]; decide) (by rw [t12_3]; decide) (by rw [t12_3]; rfl) (by decide) ?_
        refine lv_aload_n zx zy dX9_told_68 rfl (lv_at hl 0 rfl) ?_
        refine lv_iconst (v := 1) zx zy dX9_told_69 (by decide) ?_
        refine lv_iload_n zx zy dX9_told_70 rfl (lv_at hl 1 rfl) ?_
        refine fx_cVi (n := 2) (As := [.int 1, .int (nI j2)]) (b := h) (rest := []) (fun (u : Unit) => [(h, .inr (9, [.int (nI now), .int (nI wk), .ref zcoins, .ref zdebt, .ref zfines, .ref zreading, .int (nI rk), .ref zruleYear, .ref zruleWhat, .ref zruleShare, .int (nI k), .ref zstate, .ref zholder, .ref zyearOf, .ref zusedIn, .ref zprojectOf, .ref zwent, .int ii, .int (nI bk), .ref zbidWorks, .ref zbidMany, .ref zbidPrice, .int ac, .int (nI pj), .ref zisFalse, .ref zcutMany, .ref ztonnes, .ref zcosts, .ref zgiven, .ref zcutOff, .ref zgot, .ref zcutsOf, .int sm, .int mg])), (zcoins, .inl (cI, 10, .inl CO)), (zdebt, .inl (cI, 10, .inl DE)), (zfines, .inl (cI, 10, .inl FI)), (zstate, .inl (cI, 4000, .inl ST)), (zholder, .inl (cI, 4000, .inl HO))]) hC hA hH (k_X9_countOf l D cI cZ h zcoins zdebt zfines zreading zruleYear zruleWhat zruleShare zstate zholder zyearOf zusedIn zprojectOf zwent zbidWorks zbidMany zbidPrice zisFalse zcutMany ztonnes zcosts zgiven zcutOff zgot zcutsOf now wk rk k ii bk ac pj sm mg ST HO 1 (nI j2) (by first | assumption | omega)) [0, 4, 5] [1, 2, 3] [3, 0, 1, 2, 4, 5] [(zcoins, .inl (cI, 10, .inl CO)), (zdebt, .inl (cI, 10, .inl DE)), (zfines, .inl (cI, 10, .inl FI))] rfl rfl (by decide) (by decide) (fun _ => rfl) rfl gX9_told_X9_countOf (by decide +kernel) ⟨Nat.le_of_ble_eq_true rfl, Nat.le_of_ble_eq_true rfl⟩ 0 rfl rfl rfl rfl rfl hl.1 (Nat.le_of_ble_eq_true rfl) ⟨Nat.le_of_ble_eq_true rfl, Nat.le_of_ble_eq_true rfl⟩ dX9_told_71 (fun r5 u H locs hw71 hH => ?_)
        obtain rfl : r5 = nI (cntP (cOf ST HO 1 (nI j2)) k) := hw71
        have hH := (hH : fx_H zA zs.heap H locs D [(h, .inr (9, [.int (nI now), .int (nI wk), .ref zcoins, .ref zdebt, .ref zfines, .ref zreading, .int (nI rk), .ref zruleYear, .ref zruleWhat, .ref zruleShare, .int (nI k), .ref zstate, .ref zholder, .ref zyearOf, .ref zusedIn, .ref zprojectOf, .ref zwent, .int ii, .int (nI bk), .ref zbidWorks, .ref zbidMany, .ref zbidPrice, .int ac, .int (nI pj), .ref zisFalse, .ref zcutMany, .ref ztonnes, .ref zcosts, .ref zgiven, .ref zcutOff, .ref zgot, .ref zcutsOf, .int sm, .int mg])), (zcoins, .inl (cI, 10, .inl CO)), (zdebt, .inl (cI, 10, .inl DE)), (zfines, .inl (cI, 10, .inl FI)), (zstate, .inl (cI, 4000, .inl ST)), (zholder, .inl (cI, 4000, .inl HO))])
        exact fx_iret (v := nI (cntP (cOf ST HO 1 (nI j2)) k)) hQ hC hr hlk hH dX9_told_74 rfl (Nat.le_of_ble_eq_true rfl) (Nat.le_of_ble_eq_true rfl) (()) rfl (Or.inl ⟨j2, ⟨hj2, rfl⟩, by rw [t12_3]; rfl⟩)
      by_cases t12_4 : t = 4
      · refine lv_tableIn (off := 63) (tgt := 75) zx zy dX9_told_12 (by rw [t12_4]; decide) (by rw [t12_4]; decide) (by rw [t12_4]; rfl) (by decide) ?_
        refine lv_aload_n zx zy dX9_told_75 rfl (lv_at hl 0 rfl) ?_
        refine fx_get (C := RX9) (T := TX9) (N := 34) hC (fun _ h => List.mem_cons_of_mem _ (List.mem_append_right _ h)) hH 0 rfl rfl 4 (by decide) (by decide +kernel) rfl dX9_told_76 ?_
        refine lv_iload_n zx zy dX9_told_79 rfl (lv_at hl 1 rfl) ?_
        refine fx_ild hC hH 3 rfl (vp_in_nI (by omega) (by omega)) dX9_told_80 ?_
        refine lv_topi (fun v6 ev6 => ?_)
        obtain rfl : v6 = FI j2 := ev6.trans (congrArg FI (nI_clamp (by omega)))
        exact fx_iret (v := FI j2) hQ hC hr hlk hH dX9_told_81 rfl (Nat.le_of_ble_eq_true rfl) (Nat.le_of_ble_eq_true rfl) (()) rfl (Or.inl ⟨j2, ⟨hj2, rfl⟩, by rw [t12_4]; rfl⟩)
      refine lv_tableOut (tgt := 82) zx zy dX9_told_12 (by have n0 := lv_neT (a := 0) t12_0 rfl; have n1 := lv_neT (a := 1) t12_1 rfl; have n2 := lv_neT (a := 2) t12_2 rfl; have n3 := lv_neT (a := 3) t12_3 rfl; have n4 := lv_neT (a := 4) t12_4 rfl; omega) (by decide) ?_
      refine lv_ldc (own := RX9) (v := (-2147483648)) zx zy hC.1.2.2.2.1 (hC.1.2.2.2.2 _ (by decide +kernel)) dX9_told_82 ?_
      exact fx_iret (v := (-2147483648)) hQ hC hr hlk hH dX9_told_84 rfl (Nat.le_of_ble_eq_true rfl) (Nat.le_of_ble_eq_true rfl) (()) rfl (Or.inl ⟨j2, ⟨hj2, rfl⟩, ((if_neg t12_2).trans (lgF_else t12_0 t12_1 t12_3 t12_4)).symm⟩)
    · exact absurd c5 (by decide)
  · skip
    have hH := (hH : fx_H zA zs.heap H locs D [(h, .inr (9, [.int (nI now), .int (nI wk), .ref zcoins, .ref zdebt, .ref zfines, .ref zreading, .int (nI rk), .ref zruleYear, .ref zruleWhat, .ref zruleShare, .int (nI k), .ref zstate, .ref zholder, .ref zyearOf, .ref zusedIn, .ref zprojectOf, .ref zwent, .int ii, .int (nI bk), .ref zbidWorks, .ref zbidMany, .ref zbidPrice, .int ac, .int (nI pj), .ref zisFalse, .ref zcutMany, .ref ztonnes, .ref zcosts, .ref zgiven, .ref zcutOff, .ref zgot, .ref zcutsOf, .int sm, .int mg])), (zcoins, .inl (cI, 10, .inl CO)), (zdebt, .inl (cI, 10, .inl DE)), (zfines, .inl (cI, 10, .inl FI)), (zstate, .inl (cI, 4000, .inl ST)), (zholder, .inl (cI, 4000, .inl HO))])
    refine lv_if_ne (tgt := 11) zx zy dX9_told_5 (by decide) (fun c5 => ?_) (fun c5 => ?_)
    · exact absurd c5 (by decide)
    · skip
      refine lv_ldc (own := RX9) (v := (-2147483648)) zx zy hC.1.2.2.2.1 (hC.1.2.2.2.2 _ (by decide +kernel)) dX9_told_8 ?_
      exact fx_iret (v := (-2147483648)) hQ hC hr hlk hH dX9_told_10 rfl (Nat.le_of_ble_eq_true rfl) (Nat.le_of_ble_eq_true rfl) (()) rfl (Or.inr ⟨hg2, rfl⟩)
