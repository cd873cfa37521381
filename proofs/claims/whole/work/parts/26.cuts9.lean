set_option maxHeartbeats 4000000 in
set_option maxRecDepth 100000 in
theorem k_X9_cutsAll (l : Launch) (D : va_G) (cI cZ : ClassId) (h : Nat) (zcoins : Nat) (zdebt : Nat) (zfines : Nat) (zreading : Nat) (zruleYear : Nat) (zruleWhat : Nat) (zruleShare : Nat) (zstate : Nat) (zholder : Nat) (zyearOf : Nat) (zusedIn : Nat) (zprojectOf : Nat) (zwent : Nat) (zbidWorks : Nat) (zbidMany : Nat) (zbidPrice : Nat) (zisFalse : Nat) (zcutMany : Nat) (ztonnes : Nat) (zcosts : Nat) (zgiven : Nat) (zcutOff : Nat) (zgot : Nat) (zcutsOf : Nat) (now : Nat) (wk : Nat) (rk : Nat) (k : Nat) (ii : Int32) (bk : Nat) (ac : Int32) (pj : Nat) (sm : Int32) (mg : Int32) (CM : Nat → Int32) (TN : Nat → Int32) (CS : Nat → Int32) (CF : Nat → Int32) (T0 : Nat → Int32) (T1 : Nat → Int32) (T2 : Nat → Int32) (ck : Nat) (s : Nat → Nat) (m : Nat) (hmB : m < 2 ^ 31) (hck : ck ≤ 40) (hCM : ∀ w, w < 10 → ∃ e, e ≤ 4 ∧ CM w = nI e) (hR : ctR T0 T1 T2 ck CM TN CS s) : fx_CI l D cI cZ yX9_cutsAll wsX9_cutsAll ({ frames := 0, cells := 0, slots := 0, locals := 0 }) [.ref h, .int (nI m)] [(h, .inr (9, [.int (nI now), .int (nI wk), .ref zcoins, .ref zdebt, .ref zfines, .ref zreading, .int (nI rk), .ref zruleYear, .ref zruleWhat, .ref zruleShare, .int (nI k), .ref zstate, .ref zholder, .ref zyearOf, .ref zusedIn, .ref zprojectOf, .ref zwent, .int ii, .int (nI bk), .ref zbidWorks, .ref zbidMany, .ref zbidPrice, .int ac, .int (nI pj), .ref zisFalse, .ref zcutMany, .ref ztonnes, .ref zcosts, .ref zgiven, .ref zcutOff, .ref zgot, .ref zcutsOf, .int sm, .int mg])), (zcutMany, .inl (cI, 10, .inl CM)), (ztonnes, .inl (cI, 40, .inl TN)), (zcosts, .inl (cI, 40, .inl CS)), (zcutsOf, .inl (cI, 10, .inl CF))] (fun (u : (Int32) × (Int32) × (Nat → Int32)) => [(h, .inr (9, [.int (nI now), .int (nI wk), .ref zcoins, .ref zdebt, .ref zfines, .ref zreading, .int (nI rk), .ref zruleYear, .ref zruleWhat, .ref zruleShare, .int (nI k), .ref zstate, .ref zholder, .ref zyearOf, .ref zusedIn, .ref zprojectOf, .ref zwent, .int ii, .int (nI bk), .ref zbidWorks, .ref zbidMany, .ref zbidPrice, .int ac, .int (nI pj), .ref zisFalse, .ref zcutMany, .ref ztonnes, .ref zcosts, .ref zgiven, .ref zcutOff, .ref zgot, .ref zcutsOf, .int u.1, .int u.2.1])), (zcutMany, .inl (cI, 10, .inl CM)), (ztonnes, .inl (cI, 40, .inl TN)), (zcosts, .inl (cI, 40, .inl CS)), (zcutsOf, .inl (cI, 10, .inl u.2.2))]) (fun (r : Int32) (u : (Int32) × (Int32) × (Nat → Int32)) => ((csL T1 (nI m) ck = 0 ∧ u.1 = csS T1 T2 (nI m) ck ∧ u.2.1 = mgI T1 T2 (nI m) ck ∧ ∀ j, j < 10 → u.2.2 j = csP T0 T1 (nI m) (nI j) ck) ∧ r = 1) ∨ ((¬ csL T1 (nI m) ck = 0) ∧ r = 0)) := by
  refine fx_CI.of (ws' := (wsX9_cutsAll).tail) cX9_cutsAll 6 (by decide) rfl (Nat.le_of_ble_eq_true rfl) ?_
  intro zp ze zs zm za zb zt zc zA ls zQ hQ hC hr hlk hA hH hl
  have zx := hC.1.1
  have zy := hC.1.2.1
  have hl : lv_has ls 6 [(0, .ref h), (1, .int (nI m))] := hl
  refine lv_iload_n zx zy dX9_cutsAll_0 rfl (lv_at hl 1 rfl) ?_
  refine lv_istore_n (lv' := [(2, .int (nI m)), (0, .ref h), (1, .int (nI m))]) zx zy dX9_cutsAll_1 rfl hl (by decide) rfl (fun ls hl => ?_)
  refine lv_aload_n zx zy dX9_cutsAll_2 rfl (lv_at hl 1 rfl) ?_
  refine lv_iconst (v := 0) zx zy dX9_cutsAll_3 (by decide) ?_
  refine fx_put (C := RX9) (T := TX9) (N := 34) (ty := .int) (ws2 := [(h, .inr (9, [.int (nI now), .int (nI wk), .ref zcoins, .ref zdebt, .ref zfines, .ref zreading, .int (nI rk), .ref zruleYear, .ref zruleWhat, .ref zruleShare, .int (nI k), .ref zstate, .ref zholder, .ref zyearOf, .ref zusedIn, .ref zprojectOf, .ref zwent, .int ii, .int (nI bk), .ref zbidWorks, .ref zbidMany, .ref zbidPrice, .int ac, .int (nI pj), .ref zisFalse, .ref zcutMany, .ref ztonnes, .ref zcosts, .ref zgiven, .ref zcutOff, .ref zgot, .ref zcutsOf, .int 0, .int mg])), (zcutMany, .inl (cI, 10, .inl CM)), (ztonnes, .inl (cI, 40, .inl TN)), (zcosts, .inl (cI, 40, .inl CS)), (zcutsOf, .inl (cI, 10, .inl CF))]) hC (fun _ h => List.mem_cons_of_mem _ (List.mem_append_right _ h)) tyX9_ok nmX9 hH 0 rfl rfl 32 (by decide) (by decide +kernel) rfl rfl rfl rfl (Nat.le_of_ble_eq_true rfl) rfl dX9_cutsAll_4 (fun H locs hH => ?_)
  refine lv_aload_n zx zy dX9_cutsAll_7 rfl (lv_at hl 1 rfl) ?_
  refine lv_iconst (v := 0) zx zy dX9_cutsAll_8 (by decide) ?_
  refine fx_put (C := RX9) (T := TX9) (N := 34) (ty := .int) (ws2 := [(h, .inr (9, [.int (nI now), .int (nI wk), .ref zcoins, .ref zdebt, .ref zfines, .ref zreading, .int (nI rk), .ref zruleYear, .ref zruleWhat, .ref zruleShare, .int (nI k), .ref zstate, .ref zholder, .ref zyearOf, .ref zusedIn, .ref zprojectOf, .ref zwent, .int ii, .int (nI bk), .ref zbidWorks, .ref zbidMany, .ref zbidPrice, .int ac, .int (nI pj), .ref zisFalse, .ref zcutMany, .ref ztonnes, .ref zcosts, .ref zgiven, .ref zcutOff, .ref zgot, .ref zcutsOf, .int 0, .int 0])), (zcutMany, .inl (cI, 10, .inl CM)), (ztonnes, .inl (cI, 40, .inl TN)), (zcosts, .inl (cI, 40, .inl CS)), (zcutsOf, .inl (cI, 10, .inl CF))]) hC (fun _ h => List.mem_cons_of_mem _ (List.mem_append_right _ h)) tyX9_ok nmX9 hH 0 rfl rfl 33 (by decide) (by decide +kernel) rfl rfl rfl rfl (Nat.le_of_ble_eq_true rfl) rfl dX9_cutsAll_9 (fun H locs hH => ?_)
  refine lv_iconst (v := 0) zx zy dX9_cutsAll_12 (by decide) ?_
  refine lv_topi (fun v1 ev1 => ?_)
  obtain rfl : v1 = nI 0 := ev1.trans (rfl)
  refine lv_istore_n (lv' := [(3, .int (nI 0)), (2, .int (nI m)), (0, .ref h), (1, .int (nI m))]) zx zy dX9_cutsAll_13 rfl hl (by decide) rfl (fun ls hl => ?_)
  have L14 : ∀ (fu : Nat) (i : Nat) (hi : i ≤ 10) (H : Heap) (locs : List Loc) (ls : Array Slot), 10 - i < fu → fx_H zA zs.heap H locs D [(h, .inr (9, [.int (nI now), .int (nI wk), .ref zcoins, .ref zdebt, .ref zfines, .ref zreading, .int (nI rk), .ref zruleYear, .ref zruleWhat, .ref zruleShare, .int (nI k), .ref zstate, .ref zholder, .ref zyearOf, .ref zusedIn, .ref zprojectOf, .ref zwent, .int ii, .int (nI bk), .ref zbidWorks, .ref zbidMany, .ref zbidPrice, .int ac, .int (nI pj), .ref zisFalse, .ref zcutMany, .ref ztonnes, .ref zcosts, .ref zgiven, .ref zcutOff, .ref zgot, .ref zcutsOf, .int 0, .int 0])), (zcutMany, .inl (cI, 10, .inl CM)), (ztonnes, .inl (cI, 40, .inl TN)), (zcosts, .inl (cI, 40, .inl CS)), (zcutsOf, .inl (cI, 10, .inl (preF CF (fun _ => 0) i)))] → lv_has ls 6 [(0, .ref h), (1, .int (nI m)), (2, .int (nI m)), (3, .int (nI i))] → W zp l ze ({ frames := 0, cells := 0, slots := 0, locals := 0 }) zs zm za zb zt zc H locs (0) (0) zQ (F0 zm 14 ls []) := by
    intro fu
    induction fu with
    | zero => intro i hi H locs ls hfu; exact absurd hfu (Nat.not_lt_zero _)
    | succ fu ih14 =>
      intro i hi H locs ls hfu14 hH hl
      refine lv_iload_n zx zy dX9_cutsAll_14 rfl (lv_at hl 3 rfl) ?_
      refine lv_bipush (v := 10) zx zy dX9_cutsAll_15 (by decide) ?_
      refine lv_icmp_ge (tgt := 33) zx zy dX9_cutsAll_17 (by decide) (fun c17 => ?_) (fun c17 => ?_)
      · skip
        have hi10 : i = 10 := Nat.le_antisymm hi (fx_le_of (a := 10) c17 (by omega) (by omega))
        rw [hi10] at hH
        refine lv_iconst (v := 0) zx zy dX9_cutsAll_33 (by decide) ?_
        refine lv_topi (fun v2 ev2 => ?_)
        obtain rfl : v2 = nI 0 := ev2.trans (rfl)
        refine lv_istore_n (lv' := [(3, .int (nI 0)), (0, .ref h), (1, .int (nI m)), (2, .int (nI m))]) zx zy dX9_cutsAll_34 rfl hl (by decide) rfl (fun ls hl => ?_)
        have L35 : ∀ (fu : Nat) (p : Nat) (t : Nat) (l4 : Nat) (sm : Int32) (mg : Int32) (F : Nat → Int32) (hp : p ≤ 1000) (hT : ctT T2 ck s p 0 t) (hl4 : csL T1 (nI m) t = nI l4) (hlm : l4 ≤ m) (hsm : sm = csS T1 T2 (nI m) t) (hmg : mg = mgI T1 T2 (nI m) t) (hF : ∀ j, j < 10 → F j = cfI T0 T1 (nI m) t j) (H : Heap) (locs : List Loc) (ls : Array Slot), 1000 - p < fu → fx_H zA zs.heap H locs D [(h, .inr (9, [.int (nI now), .int (nI wk), .ref zcoins, .ref zdebt, .ref zfines, .ref zreading, .int (nI rk), .ref zruleYear, .ref zruleWhat, .ref zruleShare, .int (nI k), .ref zstate, .ref zholder, .ref zyearOf, .ref zusedIn, .ref zprojectOf, .ref zwent, .int ii, .int (nI bk), .ref zbidWorks, .ref zbidMany, .ref zbidPrice, .int ac, .int (nI pj), .ref zisFalse, .ref zcutMany, .ref ztonnes, .ref zcosts, .ref zgiven, .ref zcutOff, .ref zgot, .ref zcutsOf, .int sm, .int mg])), (zcutMany, .inl (cI, 10, .inl CM)), (ztonnes, .inl (cI, 40, .inl TN)), (zcosts, .inl (cI, 40, .inl CS)), (zcutsOf, .inl (cI, 10, .inl F))] → lv_has ls 6 [(0, .ref h), (1, .int (nI m)), (2, .int (nI l4)), (3, .int (nI p))] → W zp l ze ({ frames := 0, cells := 0, slots := 0, locals := 0 }) zs zm za zb zt zc H locs (0) (0) zQ (F0 zm 35 ls []) := by
          intro fu
          induction fu with
          | zero => intro p t l4 sm mg F hp hT hl4 hlm hsm hmg hF H locs ls hfu; exact absurd hfu (Nat.not_lt_zero _)
          | succ fu ih35 =>
            intro p t l4 sm mg F hp hT hl4 hlm hsm hmg hF H locs ls hfu35 hH hl
            refine lv_iload_n zx zy dX9_cutsAll_35 rfl (lv_at hl 3 rfl) ?_
            refine lv_sipush (v := 999) zx zy dX9_cutsAll_36 (by decide) ?_
            refine lv_icmp_gt (tgt := 163) zx zy dX9_cutsAll_39 (by decide) (fun c39 => ?_) (fun c39 => ?_)
            · skip
              have htk : t = ck := ctT_end hR (by rw [show 1000 = p from Nat.le_antisymm (by have := (nI_ltI (a := 999) (b := p) (by omega) (by omega)).mp c39; omega) hp]; exact hT)
              have hcs : csL T1 (nI m) ck = nI l4 ∧ sm = csS T1 T2 (nI m) ck ∧ mg = mgI T1 T2 (nI m) ck ∧ ∀ j, j < 10 → F j = csP T0 T1 (nI m) (nI j) ck := by rw [← htk]; exact ⟨hl4, hsm, hmg, hF⟩
              refine lv_iload_n zx zy dX9_cutsAll_163 rfl (lv_at hl 1 rfl) ?_
              refine lv_if_lt (tgt := 175) zx zy dX9_cutsAll_164 (by decide) (fun c164 => ?_) (fun c164 => ?_)
              · skip
                exact absurd c164 (nI_pos hmB)
              · skip
                refine lv_iload_n zx zy dX9_cutsAll_167 rfl (lv_at hl 2 rfl) ?_
                refine lv_if_ne (tgt := 175) zx zy dX9_cutsAll_168 (by decide) (fun c168 => ?_) (fun c168 => ?_)
                · skip
                  refine lv_iconst (v := 0) zx zy dX9_cutsAll_175 (by decide) ?_
                  exact fx_iret (v := 0) hQ hC hr hlk hH dX9_cutsAll_176 rfl (Nat.le_of_ble_eq_true rfl) (Nat.le_of_ble_eq_true rfl) ((sm, mg, F)) rfl (by first | exact Or.inl ⟨⟨hcs.1.trans c168, hcs.2⟩, rfl⟩ | exact Or.inr ⟨fun z => c168 (hcs.1.symm.trans z), rfl⟩)
                · skip
                  refine lv_iconst (v := 1) zx zy dX9_cutsAll_171 (by decide) ?_
                  refine lv_goto (tgt := 176) zx zy dX9_cutsAll_172 (by decide) ?_
                  exact fx_iret (v := 1) hQ hC hr hlk hH dX9_cutsAll_176 rfl (Nat.le_of_ble_eq_true rfl) (Nat.le_of_ble_eq_true rfl) ((sm, mg, F)) rfl (by first | exact Or.inl ⟨⟨hcs.1.trans c168, hcs.2⟩, rfl⟩ | exact Or.inr ⟨fun z => c168 (hcs.1.symm.trans z), rfl⟩)
            · skip
              have hp9 : p < 1000 := by have := Nat.le_of_not_lt (fun z => c39 (nI_lt (a := 999) (b := p) z (by omega))); omega
              refine lv_iload_n zx zy dX9_cutsAll_42 rfl (lv_at hl 2 rfl) ?_
              refine lv_if_le (tgt := 163) zx zy dX9_cutsAll_43 (by decide) (fun c43 => ?_) (fun c43 => ?_)
              · skip
                have hl0 : l4 = 0 := fx_zero_of c43 (by omega)
                have hcz : csL T1 (nI m) t = 0 := by rw [hl4, hl0]; rfl
                have hcs : csL T1 (nI m) ck = nI l4 ∧ sm = csS T1 T2 (nI m) ck ∧ mg = mgI T1 T2 (nI m) ck ∧ ∀ j, j < 10 → F j = csP T0 T1 (nI m) (nI j) ck := by
                  have q := fun w => cs_stop (T0 := T0) (T2 := T2) (w := w) hR.2.1 hcz hT.1 (Nat.le_refl ck)
                  refine ⟨by rw [(q 0).1, hl0]; rfl, by rw [(q 0).2.1]; exact hsm, by rw [(q 0).2.2.2]; exact hmg, fun j hj => ?_⟩
                  rw [(q (nI j)).2.2.1]; exact hF j hj
                refine lv_iload_n zx zy dX9_cutsAll_163 rfl (lv_at hl 1 rfl) ?_
                refine lv_if_lt (tgt := 175) zx zy dX9_cutsAll_164 (by decide) (fun c164 => ?_) (fun c164 => ?_)
                · skip
                  exact absurd c164 (nI_pos hmB)
                · skip
                  refine lv_iload_n zx zy dX9_cutsAll_167 rfl (lv_at hl 2 rfl) ?_
                  refine lv_if_ne (tgt := 175) zx zy dX9_cutsAll_168 (by decide) (fun c168 => ?_) (fun c168 => ?_)
                  · skip
                    refine lv_iconst (v := 0) zx zy dX9_cutsAll_175 (by decide) ?_
                    exact fx_iret (v := 0) hQ hC hr hlk hH dX9_cutsAll_176 rfl (Nat.le_of_ble_eq_true rfl) (Nat.le_of_ble_eq_true rfl) ((sm, mg, F)) rfl (by first | exact Or.inl ⟨⟨hcs.1.trans c168, hcs.2⟩, rfl⟩ | exact Or.inr ⟨fun z => c168 (hcs.1.symm.trans z), rfl⟩)
                  · skip
                    refine lv_iconst (v := 1) zx zy dX9_cutsAll_171 (by decide) ?_
                    refine lv_goto (tgt := 176) zx zy dX9_cutsAll_172 (by decide) ?_
                    exact fx_iret (v := 1) hQ hC hr hlk hH dX9_cutsAll_176 rfl (Nat.le_of_ble_eq_true rfl) (Nat.le_of_ble_eq_true rfl) ((sm, mg, F)) rfl (by first | exact Or.inl ⟨⟨hcs.1.trans c168, hcs.2⟩, rfl⟩ | exact Or.inr ⟨fun z => c168 (hcs.1.symm.trans z), rfl⟩)
              · skip
                refine lv_iconst (v := 0) zx zy dX9_cutsAll_46 (by decide) ?_
                refine lv_topi (fun v3 ev3 => ?_)
                obtain rfl : v3 = nI 0 := ev3.trans (rfl)
                refine lv_istore (lv' := [(4, .int (nI 0)), (0, .ref h), (1, .int (nI m)), (2, .int (nI l4)), (3, .int (nI p))]) zx zy dX9_cutsAll_47 hl (by decide) rfl (fun ls hl => ?_)
                have L49 : ∀ (fu : Nat) (x : Nat) (t : Nat) (l4 : Nat) (sm : Int32) (mg : Int32) (F : Nat → Int32) (hx : x ≤ 40) (hT : ctT T2 ck s p x t) (hl4 : csL T1 (nI m) t = nI l4) (hlm : l4 ≤ m) (hsm : sm = csS T1 T2 (nI m) t) (hmg : mg = mgI T1 T2 (nI m) t) (hF : ∀ j, j < 10 → F j = cfI T0 T1 (nI m) t j) (H : Heap) (locs : List Loc) (ls : Array Slot), 40 - x < fu → fx_H zA zs.heap H locs D [(h, .inr (9, [.int (nI now), .int (nI wk), .ref zcoins, .ref zdebt, .ref zfines, .ref zreading, .int (nI rk), .ref zruleYear, .ref zruleWhat, .ref zruleShare, .int (nI k), .ref zstate, .ref zholder, .ref zyearOf, .ref zusedIn, .ref zprojectOf, .ref zwent, .int ii, .int (nI bk), .ref zbidWorks, .ref zbidMany, .ref zbidPrice, .int ac, .int (nI pj), .ref zisFalse, .ref zcutMany, .ref ztonnes, .ref zcosts, .ref zgiven, .ref zcutOff, .ref zgot, .ref zcutsOf, .int sm, .int mg])), (zcutMany, .inl (cI, 10, .inl CM)), (ztonnes, .inl (cI, 40, .inl TN)), (zcosts, .inl (cI, 40, .inl CS)), (zcutsOf, .inl (cI, 10, .inl F))] → lv_has ls 6 [(0, .ref h), (1, .int (nI m)), (2, .int (nI l4)), (3, .int (nI p)), (4, .int (nI x))] → W zp l ze ({ frames := 0, cells := 0, slots := 0, locals := 0 }) zs zm za zb zt zc H locs (0) (0) zQ (F0 zm 49 ls []) := by
                  intro fu
                  induction fu with
                  | zero => intro x t l4 sm mg F hx hT hl4 hlm hsm hmg hF H locs ls hfu; exact absurd hfu (Nat.not_lt_zero _)
                  | succ fu ih49 =>
                    intro x t l4 sm mg F hx hT hl4 hlm hsm hmg hF H locs ls hfu49 hH hl
                    refine lv_iload zx zy dX9_cutsAll_49 (lv_at hl 4 rfl) ?_
                    refine lv_bipush (v := 40) zx zy dX9_cutsAll_51 (by decide) ?_
                    refine lv_icmp_ge (tgt := 157) zx zy dX9_cutsAll_53 (by decide) (fun c53 => ?_) (fun c53 => ?_)
                    · skip
                      have hx40e : x = 40 := Nat.le_antisymm hx (fx_le_of (a := 40) c53 (by omega) (by omega))
                      refine lv_iinc (v := nI (p + 1)) (lv' := [(3, .int (nI (p + 1))), (0, .ref h), (1, .int (nI m)), (2, .int (nI l4)), (4, .int (nI x))]) zx zy dX9_cutsAll_157 hl (k := 3) rfl (nI_1 _) (by decide) rfl (fun ls hl => ?_)
                      refine lv_goto (tgt := 35) zx zy dX9_cutsAll_160 (by decide) ?_
                      exact ih35 (p + 1) t l4 sm mg F (by first | assumption | omega) (ctT_row (fun i hi => (hR.1 i hi).1) (by rw [← hx40e]; exact hT)) (by first | assumption | omega) (by first | assumption | omega) (by first | assumption | omega) (by first | assumption | omega) (by first | assumption | omega) _ _ _ (by omega) hH (lv_sub hl [1, 2, 3, 0] rfl)
                    · skip
                      have hx40 : x < 40 := fx_lt_of (b := 40) c53 (by omega)
                      obtain ⟨e4, he4, ee4⟩ := hCM (x / 4) (by omega)
                      refine lv_iload zx zy dX9_cutsAll_56 (lv_at hl 4 rfl) ?_
                      refine lv_iconst (v := 4) zx zy dX9_cutsAll_58 (by decide) ?_
                      refine lv_irem zx zy dX9_cutsAll_59 (by decide) ?_
                      refine lv_topi (fun v4 ev4 => ?_)
                      obtain rfl : v4 = nI (x % 4) := ev4.trans (pk_rem (d := 4) (by omega) (by omega) (by omega))
                      refine lv_aload_n zx zy dX9_cutsAll_60 rfl (lv_at hl 0 rfl) ?_
                      refine fx_get (C := RX9) (T := TX9) (N := 34) hC (fun _ h => List.mem_cons_of_mem _ (List.mem_append_right _ h)) hH 0 rfl rfl 25 (by decide) (by decide +kernel) rfl dX9_cutsAll_61 ?_
                      refine lv_iload zx zy dX9_cutsAll_64 (lv_at hl 4 rfl) ?_
                      refine lv_iconst (v := 4) zx zy dX9_cutsAll_66 (by decide) ?_
                      refine lv_idiv zx zy dX9_cutsAll_67 (by decide) ?_
                      refine lv_topi (fun v5 ev5 => ?_)
                      obtain rfl : v5 = nI (x / 4) := ev5.trans (pk_div (d := 4) (by omega) (by omega) (by omega))
                      refine fx_ild hC hH 1 rfl (vp_in_nI (by omega) (by omega)) dX9_cutsAll_68 ?_
                      refine lv_topi (fun v6 ev6 => ?_)
                      obtain rfl : v6 = nI e4 := ev6.trans ((congrArg CM (nI_clamp (by omega))).trans ee4)
                      refine lv_icmp_ge (tgt := 151) zx zy dX9_cutsAll_69 (by decide) (fun c69 => ?_) (fun c69 => ?_)
                      · skip
                        have hTn := ctT_skip hR hT (fun z => by obtain ⟨e2, q1, q2, q3⟩ := z.1; have q4 := (nI_eq (by omega) (by omega)).mp (ee4.symm.trans q2); have q5 := fx_le_of c69 (by omega) (by omega); omega)
                        have hln := hl4
                        refine lv_iinc (v := nI (x + 1)) (lv' := [(4, .int (nI (x + 1))), (0, .ref h), (1, .int (nI m)), (2, .int (nI l4)), (3, .int (nI p))]) zx zy dX9_cutsAll_151 hl (k := 4) rfl (nI_1 _) (by decide) rfl (fun ls hl => ?_)
                        refine lv_goto (tgt := 49) zx zy dX9_cutsAll_154 (by decide) ?_
                        exact ih49 (x + 1) _ l4 sm mg F (by first | assumption | omega) (hTn) (hln) (by first | exact hlmn | omega) (by first | exact hsm | exact hsmn) (by first | exact hmg | exact hmgn) (by first | exact hF | exact hFn) _ _ _ (by omega) hH (lv_sub hl [1, 2, 3, 4, 0] rfl)
                      · skip
                        have hv : slV CM x := ⟨e4, he4, ee4, fx_lt_of c69 (by omega)⟩
                        refine lv_aload_n zx zy dX9_cutsAll_72 rfl (lv_at hl 0 rfl) ?_
                        refine fx_get (C := RX9) (T := TX9) (N := 34) hC (fun _ h => List.mem_cons_of_mem _ (List.mem_append_right _ h)) hH 0 rfl rfl 27 (by decide) (by decide +kernel) rfl dX9_cutsAll_73 ?_
                        refine lv_iload zx zy dX9_cutsAll_76 (lv_at hl 4 rfl) ?_
                        refine fx_ild hC hH 3 rfl (vp_in_nI (by omega) (by omega)) dX9_cutsAll_78 ?_
                        refine lv_topi (fun v7 ev7 => ?_)
                        obtain rfl : v7 = CS x := ev7.trans (congrArg CS (nI_clamp (by omega)))
                        refine lv_iload_n zx zy dX9_cutsAll_79 rfl (lv_at hl 3 rfl) ?_
                        refine lv_icmp_ne (tgt := 151) zx zy dX9_cutsAll_80 (by decide) (fun c80 => ?_) (fun c80 => ?_)
                        · skip
                          have hTn := ctT_skip hR hT (fun z => by obtain ⟨c, hc, ec⟩ := cs_nI hR hx40 z.1; exact c80 (by rw [ec]; have := z.2; rw [ec, nI_clamp (by omega)] at this; rw [this]))
                          have hln := hl4
                          refine lv_iinc (v := nI (x + 1)) (lv' := [(4, .int (nI (x + 1))), (0, .ref h), (1, .int (nI m)), (2, .int (nI l4)), (3, .int (nI p))]) zx zy dX9_cutsAll_151 hl (k := 4) rfl (nI_1 _) (by decide) rfl (fun ls hl => ?_)
                          refine lv_goto (tgt := 49) zx zy dX9_cutsAll_154 (by decide) ?_
                          exact ih49 (x + 1) _ l4 sm mg F (by first | assumption | omega) (hTn) (hln) (by first | exact hlmn | omega) (by first | exact hsm | exact hsmn) (by first | exact hmg | exact hmgn) (by first | exact hF | exact hFn) _ _ _ (by omega) hH (lv_sub hl [1, 2, 3, 4, 0] rfl)
                        · skip
                          obtain ⟨htc, hst, hTn⟩ := ctT_hit hR hT hx40 hv (by rw [c80, nI_clamp (by omega)])
                          obtain ⟨r1, r2, r3, r4, r5⟩ := hR.1 t htc
                          rw [hst] at r3 r4 r5
                          refine lv_iload_n zx zy dX9_cutsAll_83 rfl (lv_at hl 2 rfl) ?_
                          refine lv_if_ne (tgt := 90) zx zy dX9_cutsAll_84 (by decide) (fun c84 => ?_) (fun c84 => ?_)
                          · skip
                            obtain ⟨lx, hlmn, elx⟩ := csL_ix hmB hR.2.1 (i := t + 1) htc
                            have hln := elx
                            have hsmn : sm + csM T1 (nI m) t * nI p = csS T1 T2 (nI m) (t + 1) := by rw [hsm, ← c80, ← r5]; rfl
                            have hmgn : nI p = mgI T1 T2 (nI m) (t + 1) := by rw [← c80, ← r5]; exact (if_neg (fun z => c84 (hl4.symm.trans z))).symm
                            have hFn : ∀ j, j < 10 → upd F (x / 4) (F (x / 4) + csM T1 (nI m) t) j = cfI T0 T1 (nI m) (t + 1) j := by
                              intro j hj
                              rw [← cfI_s (by omega) r3 j hj]
                              simp only [upd]
                              rw [hF _ (show x / 4 < 10 by omega), hF j hj]
                            refine lv_aload_n zx zy dX9_cutsAll_90 rfl (lv_at hl 0 rfl) ?_
                            refine fx_get (C := RX9) (T := TX9) (N := 34) hC (fun _ h => List.mem_cons_of_mem _ (List.mem_append_right _ h)) hH 0 rfl rfl 26 (by decide) (by decide +kernel) rfl dX9_cutsAll_91 ?_
                            refine lv_iload zx zy dX9_cutsAll_94 (lv_at hl 4 rfl) ?_
                            refine fx_ild hC hH 2 rfl (vp_in_nI (by omega) (by omega)) dX9_cutsAll_96 ?_
                            refine lv_topi (fun v8 ev8 => ?_)
                            obtain rfl : v8 = TN x := ev8.trans (congrArg TN (nI_clamp (by omega)))
                            refine lv_iload_n zx zy dX9_cutsAll_97 rfl (lv_at hl 2 rfl) ?_
                            refine lv_icmp_ge (tgt := 111) zx zy dX9_cutsAll_98 (by decide) (fun c98 => ?_) (fun c98 => ?_)
                            · skip
                              have hmn : nI l4 = csM T1 (nI m) t := by unfold csM; rw [hl4, r4]; exact (if_neg (Int32.not_lt.mpr c98)).symm
                              refine lv_iload_n zx zy dX9_cutsAll_111 rfl (lv_at hl 2 rfl) ?_
                              refine lv_topi (fun v9 ev9 => ?_)
                              obtain rfl : v9 = csM T1 (nI m) t := ev9.trans (hmn)
                              refine lv_istore (lv' := [(5, .int (csM T1 (nI m) t)), (0, .ref h), (1, .int (nI m)), (2, .int (nI l4)), (3, .int (nI p)), (4, .int (nI x))]) zx zy dX9_cutsAll_112 hl (by decide) rfl (fun ls hl => ?_)
                              refine lv_aload_n zx zy dX9_cutsAll_114 rfl (lv_at hl 1 rfl) ?_
                              refine fx_get (C := RX9) (T := TX9) (N := 34) hC (fun _ h => List.mem_cons_of_mem _ (List.mem_append_right _ h)) hH 0 rfl rfl 31 (by decide) (by decide +kernel) rfl dX9_cutsAll_115 ?_
                              refine lv_iload zx zy dX9_cutsAll_118 (lv_at hl 5 rfl) ?_
                              refine lv_iconst (v := 4) zx zy dX9_cutsAll_120 (by decide) ?_
                              refine lv_idiv zx zy dX9_cutsAll_121 (by decide) ?_
                              refine lv_topi (fun v10 ev10 => ?_)
                              obtain rfl : v10 = nI (x / 4) := ev10.trans (pk_div (d := 4) (by omega) (by omega) (by omega))
                              refine lv_dup2_11 zx zy dX9_cutsAll_122 rfl rfl ?_
                              refine fx_ild hC hH 4 rfl (vp_in_nI (by omega) (by omega)) dX9_cutsAll_123 ?_
                              refine lv_topi (fun v11 ev11 => ?_)
                              obtain rfl : v11 = F (x / 4) := ev11.trans (congrArg F (nI_clamp (by omega)))
                              refine lv_iload zx zy dX9_cutsAll_124 (lv_at hl 0 rfl) ?_
                              refine lv_iadd zx zy dX9_cutsAll_126 ?_
                              refine fx_ist (ws2 := [(h, .inr (9, [.int (nI now), .int (nI wk), .ref zcoins, .ref zdebt, .ref zfines, .ref zreading, .int (nI rk), .ref zruleYear, .ref zruleWhat, .ref zruleShare, .int (nI k), .ref zstate, .ref zholder, .ref zyearOf, .ref zusedIn, .ref zprojectOf, .ref zwent, .int ii, .int (nI bk), .ref zbidWorks, .ref zbidMany, .ref zbidPrice, .int ac, .int (nI pj), .ref zisFalse, .ref zcutMany, .ref ztonnes, .ref zcosts, .ref zgiven, .ref zcutOff, .ref zgot, .ref zcutsOf, .int sm, .int mg])), (zcutMany, .inl (cI, 10, .inl CM)), (ztonnes, .inl (cI, 40, .inl TN)), (zcosts, .inl (cI, 40, .inl CS)), (zcutsOf, .inl (cI, 10, .inl (upd F (nI (x / 4)).toNatClampNeg ((F (x / 4)) + (csM T1 (nI m) t)))))]) hC hH 4 rfl (vp_in_nI (by omega) (by omega)) rfl dX9_cutsAll_127 (fun H locs hH => ?_)
                              rw [show (upd F (nI (x / 4)).toNatClampNeg ((F (x / 4)) + (csM T1 (nI m) t)) : Nat → Int32) = upd F (x / 4) ((F (x / 4)) + (csM T1 (nI m) t)) from (by rw [nI_clamp (by omega)])] at hH
                              refine lv_aload_n zx zy dX9_cutsAll_128 rfl (lv_at hl 1 rfl) ?_
                              refine lv_dup zx zy dX9_cutsAll_129 rfl ?_
                              refine fx_get (C := RX9) (T := TX9) (N := 34) hC (fun _ h => List.mem_cons_of_mem _ (List.mem_append_right _ h)) hH 0 rfl rfl 32 (by decide) (by decide +kernel) rfl dX9_cutsAll_130 ?_
                              refine lv_iload zx zy dX9_cutsAll_133 (lv_at hl 0 rfl) ?_
                              refine lv_iload_n zx zy dX9_cutsAll_135 rfl (lv_at hl 4 rfl) ?_
                              refine lv_imul zx zy dX9_cutsAll_136 ?_
                              refine lv_iadd zx zy dX9_cutsAll_137 ?_
                              refine fx_put (C := RX9) (T := TX9) (N := 34) (ty := .int) (ws2 := [(h, .inr (9, [.int (nI now), .int (nI wk), .ref zcoins, .ref zdebt, .ref zfines, .ref zreading, .int (nI rk), .ref zruleYear, .ref zruleWhat, .ref zruleShare, .int (nI k), .ref zstate, .ref zholder, .ref zyearOf, .ref zusedIn, .ref zprojectOf, .ref zwent, .int ii, .int (nI bk), .ref zbidWorks, .ref zbidMany, .ref zbidPrice, .int ac, .int (nI pj), .ref zisFalse, .ref zcutMany, .ref ztonnes, .ref zcosts, .ref zgiven, .ref zcutOff, .ref zgot, .ref zcutsOf, .int (sm + ((csM T1 (nI m) t) * (nI p))), .int mg])), (zcutMany, .inl (cI, 10, .inl CM)), (ztonnes, .inl (cI, 40, .inl TN)), (zcosts, .inl (cI, 40, .inl CS)), (zcutsOf, .inl (cI, 10, .inl (upd F (x / 4) ((F (x / 4)) + (csM T1 (nI m) t)))))]) hC (fun _ h => List.mem_cons_of_mem _ (List.mem_append_right _ h)) tyX9_ok nmX9 hH 0 rfl rfl 32 (by decide) (by decide +kernel) rfl rfl rfl rfl (Nat.le_of_ble_eq_true rfl) rfl dX9_cutsAll_138 (fun H locs hH => ?_)
                              refine lv_aload_n zx zy dX9_cutsAll_141 rfl (lv_at hl 1 rfl) ?_
                              refine lv_iload_n zx zy dX9_cutsAll_142 rfl (lv_at hl 4 rfl) ?_
                              refine fx_put (C := RX9) (T := TX9) (N := 34) (ty := .int) (ws2 := [(h, .inr (9, [.int (nI now), .int (nI wk), .ref zcoins, .ref zdebt, .ref zfines, .ref zreading, .int (nI rk), .ref zruleYear, .ref zruleWhat, .ref zruleShare, .int (nI k), .ref zstate, .ref zholder, .ref zyearOf, .ref zusedIn, .ref zprojectOf, .ref zwent, .int ii, .int (nI bk), .ref zbidWorks, .ref zbidMany, .ref zbidPrice, .int ac, .int (nI pj), .ref zisFalse, .ref zcutMany, .ref ztonnes, .ref zcosts, .ref zgiven, .ref zcutOff, .ref zgot, .ref zcutsOf, .int (sm + ((csM T1 (nI m) t) * (nI p))), .int (nI p)])), (zcutMany, .inl (cI, 10, .inl CM)), (ztonnes, .inl (cI, 40, .inl TN)), (zcosts, .inl (cI, 40, .inl CS)), (zcutsOf, .inl (cI, 10, .inl (upd F (x / 4) ((F (x / 4)) + (csM T1 (nI m) t)))))]) hC (fun _ h => List.mem_cons_of_mem _ (List.mem_append_right _ h)) tyX9_ok nmX9 hH 0 rfl rfl 33 (by decide) (by decide +kernel) rfl rfl rfl rfl (Nat.le_of_ble_eq_true rfl) rfl dX9_cutsAll_143 (fun H locs hH => ?_)
                              refine lv_iload_n zx zy dX9_cutsAll_146 rfl (lv_at hl 3 rfl) ?_
                              refine lv_iload zx zy dX9_cutsAll_147 (lv_at hl 0 rfl) ?_
                              refine lv_isub zx zy dX9_cutsAll_149 ?_
                              refine lv_topi (fun v12 ev12 => ?_)
                              obtain rfl : v12 = nI lx := ev12.trans (by rw [← hl4]; exact elx)
                              refine lv_istore_n (lv' := [(2, .int (nI lx)), (5, .int (csM T1 (nI m) t)), (0, .ref h), (1, .int (nI m)), (3, .int (nI p)), (4, .int (nI x))]) zx zy dX9_cutsAll_150 rfl hl (by decide) rfl (fun ls hl => ?_)
                              refine lv_iinc (v := nI (x + 1)) (lv' := [(4, .int (nI (x + 1))), (2, .int (nI lx)), (5, .int (csM T1 (nI m) t)), (0, .ref h), (1, .int (nI m)), (3, .int (nI p))]) zx zy dX9_cutsAll_151 hl (k := 5) rfl (nI_1 _) (by decide) rfl (fun ls hl => ?_)
                              refine lv_goto (tgt := 49) zx zy dX9_cutsAll_154 (by decide) ?_
                              exact ih49 (x + 1) _ lx (sm + ((csM T1 (nI m) t) * (nI p))) (nI p) (upd F (x / 4) ((F (x / 4)) + (csM T1 (nI m) t))) (by first | assumption | omega) (hTn) (hln) (by first | exact hlmn | omega) (by first | exact hsm | exact hsmn) (by first | exact hmg | exact hmgn) (by first | exact hF | exact hFn) _ _ _ (by omega) hH (lv_sub hl [3, 4, 1, 5, 0] rfl)
                            · skip
                              have hmn : TN x = csM T1 (nI m) t := by unfold csM; rw [hl4, r4]; exact (if_pos (i_nle c98)).symm
                              refine lv_aload_n zx zy dX9_cutsAll_101 rfl (lv_at hl 0 rfl) ?_
                              refine fx_get (C := RX9) (T := TX9) (N := 34) hC (fun _ h => List.mem_cons_of_mem _ (List.mem_append_right _ h)) hH 0 rfl rfl 26 (by decide) (by decide +kernel) rfl dX9_cutsAll_102 ?_
                              refine lv_iload zx zy dX9_cutsAll_105 (lv_at hl 4 rfl) ?_
                              refine fx_ild hC hH 2 rfl (vp_in_nI (by omega) (by omega)) dX9_cutsAll_107 ?_
                              refine lv_topi (fun v13 ev13 => ?_)
                              obtain rfl : v13 = TN x := ev13.trans (congrArg TN (nI_clamp (by omega)))
                              refine lv_goto (tgt := 112) zx zy dX9_cutsAll_108 (by decide) ?_
                              refine lv_topi (fun v14 ev14 => ?_)
                              obtain rfl : v14 = csM T1 (nI m) t := ev14.trans (hmn)
                              refine lv_istore (lv' := [(5, .int (csM T1 (nI m) t)), (0, .ref h), (1, .int (nI m)), (2, .int (nI l4)), (3, .int (nI p)), (4, .int (nI x))]) zx zy dX9_cutsAll_112 hl (by decide) rfl (fun ls hl => ?_)
                              refine lv_aload_n zx zy dX9_cutsAll_114 rfl (lv_at hl 1 rfl) ?_
                              refine fx_get (C := RX9) (T := TX9) (N := 34) hC (fun _ h => List.mem_cons_of_mem _ (List.mem_append_right _ h)) hH 0 rfl rfl 31 (by decide) (by decide +kernel) rfl dX9_cutsAll_115 ?_
                              refine lv_iload zx zy dX9_cutsAll_118 (lv_at hl 5 rfl) ?_
                              refine lv_iconst (v := 4) zx zy dX9_cutsAll_120 (by decide) ?_
                              refine lv_idiv zx zy dX9_cutsAll_121 (by decide) ?_
                              refine lv_topi (fun v15 ev15 => ?_)
                              obtain rfl : v15 = nI (x / 4) := ev15.trans (pk_div (d := 4) (by omega) (by omega) (by omega))
                              refine lv_dup2_11 zx zy dX9_cutsAll_122 rfl rfl ?_
                              refine fx_ild hC hH 4 rfl (vp_in_nI (by omega) (by omega)) dX9_cutsAll_123 ?_
                              refine lv_topi (fun v16 ev16 => ?_)
                              obtain rfl : v16 = F (x / 4) := ev16.trans (congrArg F (nI_clamp (by omega)))
                              refine lv_iload zx zy dX9_cutsAll_124 (lv_at hl 0 rfl) ?_
                              refine lv_iadd zx zy dX9_cutsAll_126 ?_
                              refine fx_ist (ws2 := [(h, .inr (9, [.int (nI now), .int (nI wk), .ref zcoins, .ref zdebt, .ref zfines, .ref zreading, .int (nI rk), .ref zruleYear, .ref zruleWhat, .ref zruleShare, .int (nI k), .ref zstate, .ref zholder, .ref zyearOf, .ref zusedIn, .ref zprojectOf, .ref zwent, .int ii, .int (nI bk), .ref zbidWorks, .ref zbidMany, .ref zbidPrice, .int ac, .int (nI pj), .ref zisFalse, .ref zcutMany, .ref ztonnes, .ref zcosts, .ref zgiven, .ref zcutOff, .ref zgot, .ref zcutsOf, .int sm, .int mg])), (zcutMany, .inl (cI, 10, .inl CM)), (ztonnes, .inl (cI, 40, .inl TN)), (zcosts, .inl (cI, 40, .inl CS)), (zcutsOf, .inl (cI, 10, .inl (upd F (nI (x / 4)).toNatClampNeg ((F (x / 4)) + (csM T1 (nI m) t)))))]) hC hH 4 rfl (vp_in_nI (by omega) (by omega)) rfl dX9_cutsAll_127 (fun H locs hH => ?_)
                              rw [show (upd F (nI (x / 4)).toNatClampNeg ((F (x / 4)) + (csM T1 (nI m) t)) : Nat → Int32) = upd F (x / 4) ((F (x / 4)) + (csM T1 (nI m) t)) from (by rw [nI_clamp (by omega)])] at hH
                              refine lv_aload_n zx zy dX9_cutsAll_128 rfl (lv_at hl 1 rfl) ?_
                              refine lv_dup zx zy dX9_cutsAll_129 rfl ?_
                              refine fx_get (C := RX9) (T := TX9) (N := 34) hC (fun _ h => List.mem_cons_of_mem _ (List.mem_append_right _ h)) hH 0 rfl rfl 32 (by decide) (by decide +kernel) rfl dX9_cutsAll_130 ?_
                              refine lv_iload zx zy dX9_cutsAll_133 (lv_at hl 0 rfl) ?_
                              refine lv_iload_n zx zy dX9_cutsAll_135 rfl (lv_at hl 4 rfl) ?_
                              refine lv_imul zx zy dX9_cutsAll_136 ?_
                              refine lv_iadd zx zy dX9_cutsAll_137 ?_
                              refine fx_put (C := RX9) (T := TX9) (N := 34) (ty := .int) (ws2 := [(h, .inr (9, [.int (nI now), .int (nI wk), .ref zcoins, .ref zdebt, .ref zfines, .ref zreading, .int (nI rk), .ref zruleYear, .ref zruleWhat, .ref zruleShare, .int (nI k), .ref zstate, .ref zholder, .ref zyearOf, .ref zusedIn, .ref zprojectOf, .ref zwent, .int ii, .int (nI bk), .ref zbidWorks, .ref zbidMany, .ref zbidPrice, .int ac, .int (nI pj), .ref zisFalse, .ref zcutMany, .ref ztonnes, .ref zcosts, .ref zgiven, .ref zcutOff, .ref zgot, .ref zcutsOf, .int (sm + ((csM T1 (nI m) t) * (nI p))), .int mg])), (zcutMany, .inl (cI, 10, .inl CM)), (ztonnes, .inl (cI, 40, .inl TN)), (zcosts, .inl (cI, 40, .inl CS)), (zcutsOf, .inl (cI, 10, .inl (upd F (x / 4) ((F (x / 4)) + (csM T1 (nI m) t)))))]) hC (fun _ h => List.mem_cons_of_mem _ (List.mem_append_right _ h)) tyX9_ok nmX9 hH 0 rfl rfl 32 (by decide) (by decide +kernel) rfl rfl rfl rfl (Nat.le_of_ble_eq_true rfl) rfl dX9_cutsAll_138 (fun H locs hH => ?_)
                              refine lv_aload_n zx zy dX9_cutsAll_141 rfl (lv_at hl 1 rfl) ?_
                              refine lv_iload_n zx zy dX9_cutsAll_142 rfl (lv_at hl 4 rfl) ?_
                              refine fx_put (C := RX9) (T := TX9) (N := 34) (ty := .int) (ws2 := [(h, .inr (9, [.int (nI now), .int (nI wk), .ref zcoins, .ref zdebt, .ref zfines, .ref zreading, .int (nI rk), .ref zruleYear, .ref zruleWhat, .ref zruleShare, .int (nI k), .ref zstate, .ref zholder, .ref zyearOf, .ref zusedIn, .ref zprojectOf, .ref zwent, .int ii, .int (nI bk), .ref zbidWorks, .ref zbidMany, .ref zbidPrice, .int ac, .int (nI pj), .ref zisFalse, .ref zcutMany, .ref ztonnes, .ref zcosts, .ref zgiven, .ref zcutOff, .ref zgot, .ref zcutsOf, .int (sm + ((csM T1 (nI m) t) * (nI p))), .int (nI p)])), (zcutMany, .inl (cI, 10, .inl CM)), (ztonnes, .inl (cI, 40, .inl TN)), (zcosts, .inl (cI, 40, .inl CS)), (zcutsOf, .inl (cI, 10, .inl (upd F (x / 4) ((F (x / 4)) + (csM T1 (nI m) t)))))]) hC (fun _ h => List.mem_cons_of_mem _ (List.mem_append_right _ h)) tyX9_ok nmX9 hH 0 rfl rfl 33 (by decide) (by decide +kernel) rfl rfl rfl rfl (Nat.le_of_ble_eq_true rfl) rfl dX9_cutsAll_143 (fun H locs hH => ?_)
                              refine lv_iload_n zx zy dX9_cutsAll_146 rfl (lv_at hl 3 rfl) ?_
                              refine lv_iload zx zy dX9_cutsAll_147 (lv_at hl 0 rfl) ?_
                              refine lv_isub zx zy dX9_cutsAll_149 ?_
                              refine lv_topi (fun v17 ev17 => ?_)
                              obtain rfl : v17 = nI lx := ev17.trans (by rw [← hl4]; exact elx)
                              refine lv_istore_n (lv' := [(2, .int (nI lx)), (5, .int (csM T1 (nI m) t)), (0, .ref h), (1, .int (nI m)), (3, .int (nI p)), (4, .int (nI x))]) zx zy dX9_cutsAll_150 rfl hl (by decide) rfl (fun ls hl => ?_)
                              refine lv_iinc (v := nI (x + 1)) (lv' := [(4, .int (nI (x + 1))), (2, .int (nI lx)), (5, .int (csM T1 (nI m) t)), (0, .ref h), (1, .int (nI m)), (3, .int (nI p))]) zx zy dX9_cutsAll_151 hl (k := 5) rfl (nI_1 _) (by decide) rfl (fun ls hl => ?_)
                              refine lv_goto (tgt := 49) zx zy dX9_cutsAll_154 (by decide) ?_
                              exact ih49 (x + 1) _ lx (sm + ((csM T1 (nI m) t) * (nI p))) (nI p) (upd F (x / 4) ((F (x / 4)) + (csM T1 (nI m) t))) (by first | assumption | omega) (hTn) (hln) (by first | exact hlmn | omega) (by first | exact hsm | exact hsmn) (by first | exact hmg | exact hmgn) (by first | exact hF | exact hFn) _ _ _ (by omega) hH (lv_sub hl [3, 4, 1, 5, 0] rfl)
                          · skip
                            have hM0 : csM T1 (nI m) t = 0 := by
                              obtain ⟨u, u1, u2, ue⟩ := hR.2.1 t htc
                              unfold csM; rw [hl4, c84, ue]; exact if_neg (nI_nlt (b := 0) (Nat.zero_le u) (by omega))
                            have hln : csL T1 (nI m) (t + 1) = nI l4 := by show csL T1 (nI m) t - csM T1 (nI m) t = _; rw [hM0, hl4, Int32.sub_zero]
                            have hsmn : sm = csS T1 T2 (nI m) (t + 1) := by show _ = csS T1 T2 (nI m) t + csM T1 (nI m) t * T2 t; rw [hM0, Int32.zero_mul, Int32.add_zero]; exact hsm
                            have hmgn : mg = mgI T1 T2 (nI m) (t + 1) := hmg.trans (if_pos (hl4.trans c84)).symm
                            have hFn : ∀ j, j < 10 → F j = cfI T0 T1 (nI m) (t + 1) j := by rw [← cfI_same hM0]; exact hF
                            refine lv_goto (tgt := 151) zx zy dX9_cutsAll_87 (by decide) ?_
                            refine lv_iinc (v := nI (x + 1)) (lv' := [(4, .int (nI (x + 1))), (0, .ref h), (1, .int (nI m)), (2, .int (nI l4)), (3, .int (nI p))]) zx zy dX9_cutsAll_151 hl (k := 4) rfl (nI_1 _) (by decide) rfl (fun ls hl => ?_)
                            refine lv_goto (tgt := 49) zx zy dX9_cutsAll_154 (by decide) ?_
                            exact ih49 (x + 1) _ l4 sm mg F (by first | assumption | omega) (hTn) (hln) (by first | exact hlmn | omega) (by first | exact hsm | exact hsmn) (by first | exact hmg | exact hmgn) (by first | exact hF | exact hFn) _ _ _ (by omega) hH (lv_sub hl [1, 2, 3, 4, 0] rfl)
                exact L49 _ 0 t l4 sm mg F (by first | assumption | omega) (hT) (hl4) (by first | assumption | omega) (hsm) (hmg) (hF) _ _ _ (Nat.lt_succ_self _) hH (lv_sub hl [1, 2, 3, 4, 0] rfl)
        exact L35 _ 0 0 m 0 0 (preF CF (fun _ => 0) 10) (by first | assumption | omega) (ctT_0) (rfl) (Nat.le_refl m) (rfl) (rfl) (fun j hj => preF_in (f := CF) (g := fun _ => 0) hj) _ _ _ (Nat.lt_succ_self _) hH (lv_sub hl [1, 2, 3, 0] rfl)
      · skip
        have hlt : i < 10 := fx_lt_of (b := 10) c17 (by omega)
        refine lv_aload_n zx zy dX9_cutsAll_20 rfl (lv_at hl 0 rfl) ?_
        refine fx_get (C := RX9) (T := TX9) (N := 34) hC (fun _ h => List.mem_cons_of_mem _ (List.mem_append_right _ h)) hH 0 rfl rfl 31 (by decide) (by decide +kernel) rfl dX9_cutsAll_21 ?_
        refine lv_iload_n zx zy dX9_cutsAll_24 rfl (lv_at hl 3 rfl) ?_
        refine lv_iconst (v := 0) zx zy dX9_cutsAll_25 (by decide) ?_
        refine fx_ist (ws2 := [(h, .inr (9, [.int (nI now), .int (nI wk), .ref zcoins, .ref zdebt, .ref zfines, .ref zreading, .int (nI rk), .ref zruleYear, .ref zruleWhat, .ref zruleShare, .int (nI k), .ref zstate, .ref zholder, .ref zyearOf, .ref zusedIn, .ref zprojectOf, .ref zwent, .int ii, .int (nI bk), .ref zbidWorks, .ref zbidMany, .ref zbidPrice, .int ac, .int (nI pj), .ref zisFalse, .ref zcutMany, .ref ztonnes, .ref zcosts, .ref zgiven, .ref zcutOff, .ref zgot, .ref zcutsOf, .int 0, .int 0])), (zcutMany, .inl (cI, 10, .inl CM)), (ztonnes, .inl (cI, 40, .inl TN)), (zcosts, .inl (cI, 40, .inl CS)), (zcutsOf, .inl (cI, 10, .inl (upd (preF CF (fun _ => 0) i) (nI i).toNatClampNeg 0)))]) hC hH 4 rfl (vp_in_nI (by omega) (by omega)) rfl dX9_cutsAll_26 (fun H locs hH => ?_)
        rw [show (upd (preF CF (fun _ => 0) i) (nI i).toNatClampNeg 0 : Nat → Int32) = upd (preF CF (fun _ => 0) i) i 0 from (by rw [nI_clamp (by omega)])] at hH
        rw [show (upd (preF CF (fun _ => 0) i) i 0 : Nat → Int32) = preF CF (fun _ => 0) (i + 1) from preF_upd rfl] at hH
        refine lv_iinc (v := nI (i + 1)) (lv' := [(3, .int (nI (i + 1))), (0, .ref h), (1, .int (nI m)), (2, .int (nI m))]) zx zy dX9_cutsAll_27 hl (k := 3) rfl (nI_1 _) (by decide) rfl (fun ls hl => ?_)
        refine lv_goto (tgt := 14) zx zy dX9_cutsAll_30 (by decide) ?_
        exact ih14 (i + 1) (by first | assumption | omega) _ _ _ (by omega) hH (lv_sub hl [1, 2, 3, 0] rfl)
  exact L14 _ 0 (by first | assumption | omega) _ _ _ (Nat.lt_succ_self _) (by rw [preF_0]; exact hH) (lv_sub hl [2, 3, 1, 0] rfl)
set_option maxHeartbeats 4000000 in
set_option maxRecDepth 100000 in
theorem k_X9_least (l : Launch) (D : va_G) (cI cZ : ClassId) (h : Nat) (zcoins : Nat) (zdebt : Nat) (zfines : Nat) (zreading : Nat) (zruleYear : Nat) (zruleWhat : Nat) (zruleShare : Nat) (zstate : Nat) (zholder : Nat) (zyearOf : Nat) (zusedIn : Nat) (zprojectOf : Nat) (zwent : Nat) (zbidWorks : Nat) (zbidMany : Nat) (zbidPrice : Nat) (zisFalse : Nat) (zcutMany : Nat) (ztonnes : Nat) (zcosts : Nat) (zgiven : Nat) (zcutOff : Nat) (zgot : Nat) (zcutsOf : Nat) (now : Nat) (wk : Nat) (rk : Nat) (k : Nat) (ii : Int32) (bk : Nat) (ac : Int32) (pj : Nat) (sm : Int32) (mg : Int32) (CM : Nat → Int32) (TN : Nat → Int32) (CS : Nat → Int32) (CF : Nat → Int32) (T0 : Nat → Int32) (T1 : Nat → Int32) (T2 : Nat → Int32) (ck : Nat) (s : Nat → Nat) (n : Int32) (hck : ck ≤ 40) (hCM : ∀ w, w < 10 → ∃ e, e ≤ 4 ∧ CM w = nI e) (hR : ctR T0 T1 T2 ck CM TN CS s) : fx_CI l D cI cZ yX9_least wsX9_least ({ frames := 1, cells := 0, slots := 0, locals := 25 }) [.ref h, .int n] [(h, .inr (9, [.int (nI now), .int (nI wk), .ref zcoins, .ref zdebt, .ref zfines, .ref zreading, .int (nI rk), .ref zruleYear, .ref zruleWhat, .ref zruleShare, .int (nI k), .ref zstate, .ref zholder, .ref zyearOf, .ref zusedIn, .ref zprojectOf, .ref zwent, .int ii, .int (nI bk), .ref zbidWorks, .ref zbidMany, .ref zbidPrice, .int ac, .int (nI pj), .ref zisFalse, .ref zcutMany, .ref ztonnes, .ref zcosts, .ref zgiven, .ref zcutOff, .ref zgot, .ref zcutsOf, .int sm, .int mg])), (zcutMany, .inl (cI, 10, .inl CM)), (ztonnes, .inl (cI, 40, .inl TN)), (zcosts, .inl (cI, 40, .inl CS)), (zcutsOf, .inl (cI, 10, .inl CF))] (fun (u : (Int32) × (Int32) × (Nat → Int32)) => [(h, .inr (9, [.int (nI now), .int (nI wk), .ref zcoins, .ref zdebt, .ref zfines, .ref zreading, .int (nI rk), .ref zruleYear, .ref zruleWhat, .ref zruleShare, .int (nI k), .ref zstate, .ref zholder, .ref zyearOf, .ref zusedIn, .ref zprojectOf, .ref zwent, .int ii, .int (nI bk), .ref zbidWorks, .ref zbidMany, .ref zbidPrice, .int ac, .int (nI pj), .ref zisFalse, .ref zcutMany, .ref ztonnes, .ref zcosts, .ref zgiven, .ref zcutOff, .ref zgot, .ref zcutsOf, .int u.1, .int u.2.1])), (zcutMany, .inl (cI, 10, .inl CM)), (ztonnes, .inl (cI, 40, .inl TN)), (zcosts, .inl (cI, 40, .inl CS)), (zcutsOf, .inl (cI, 10, .inl u.2.2))]) (fun (r : Int32) (u : (Int32) × (Int32) × (Nat → Int32)) => ((¬ n < 0 ∧ csL T1 n ck = 0) ∧ r = csS T1 T2 n ck) ∨ (¬ (¬ n < 0 ∧ csL T1 n ck = 0) ∧ r = -1)) := by
  refine fx_CI.of (ws' := (wsX9_least).tail) cX9_least 2 (by decide) rfl (Nat.le_of_ble_eq_true rfl) ?_
  intro zp ze zs zm za zb zt zc zA ls zQ hQ hC hr hlk hA hH hl
  have zx := hC.1.1
  have zy := hC.1.2.1
  have hl : lv_has ls 2 [(0, .ref h), (1, .int n)] := hl
  refine lv_iload_n zx zy dX9_least_0 rfl (lv_at hl 1 rfl) ?_
  refine lv_if_lt (tgt := 19) zx zy dX9_least_1 (by decide) (fun c1 => ?_) (fun c1 => ?_)
  · skip
    refine lv_iconst (v := (-1)) zx zy dX9_least_19 (by decide) ?_
    exact fx_iret (v := (-1)) hQ hC hr hlk hH dX9_least_20 rfl (Nat.le_of_ble_eq_true rfl) (Nat.le_of_ble_eq_true rfl) ((sm, mg, CF)) rfl (by first | exact Or.inl ⟨⟨c1, hg6.1⟩, hg6.2.1⟩ | exact Or.inr ⟨fun z => hg6 z.2, rfl⟩ | exact Or.inr ⟨fun z => z.1 c1, rfl⟩)
  · skip
    obtain ⟨m1, hm1, rfl⟩ := nI_of c1
    have hl := (hl : lv_has ls 2 [(0, .ref h), (1, .int (nI m1))])
    refine lv_aload_n zx zy dX9_least_4 rfl (lv_at hl 0 rfl) ?_
    refine lv_iload_n zx zy dX9_least_5 rfl (lv_at hl 1 rfl) ?_
    refine fx_cVi (n := 1) (As := [.int (nI m1)]) (b := h) (rest := []) (fun (u : (Int32) × (Int32) × (Nat → Int32)) => [(h, .inr (9, [.int (nI now), .int (nI wk), .ref zcoins, .ref zdebt, .ref zfines, .ref zreading, .int (nI rk), .ref zruleYear, .ref zruleWhat, .ref zruleShare, .int (nI k), .ref zstate, .ref zholder, .ref zyearOf, .ref zusedIn, .ref zprojectOf, .ref zwent, .int ii, .int (nI bk), .ref zbidWorks, .ref zbidMany, .ref zbidPrice, .int ac, .int (nI pj), .ref zisFalse, .ref zcutMany, .ref ztonnes, .ref zcosts, .ref zgiven, .ref zcutOff, .ref zgot, .ref zcutsOf, .int u.1, .int u.2.1])), (zcutMany, .inl (cI, 10, .inl CM)), (ztonnes, .inl (cI, 40, .inl TN)), (zcosts, .inl (cI, 40, .inl CS)), (zcutsOf, .inl (cI, 10, .inl u.2.2))]) hC hA hH (k_X9_cutsAll l D cI cZ h zcoins zdebt zfines zreading zruleYear zruleWhat zruleShare zstate zholder zyearOf zusedIn zprojectOf zwent zbidWorks zbidMany zbidPrice zisFalse zcutMany ztonnes zcosts zgiven zcutOff zgot zcutsOf now wk rk k ii bk ac pj sm mg CM TN CS CF T0 T1 T2 ck s m1 (by first | assumption | omega) (by first | assumption | omega) (by first | assumption | omega) (by first | assumption | omega)) [0, 1, 2, 3, 4] [] [0, 1, 2, 3, 4] [] rfl rfl (by decide) (by decide) (fun _ => rfl) rfl gX9_least_X9_cutsAll (by decide +kernel) ⟨Nat.le_of_ble_eq_true rfl, Nat.le_of_ble_eq_true rfl⟩ 0 rfl rfl rfl rfl rfl hl.1 (Nat.le_of_ble_eq_true rfl) ⟨Nat.le_of_ble_eq_true rfl, Nat.le_of_ble_eq_true rfl⟩ dX9_least_6 (fun r1 u H locs hw6 hH => ?_)
    obtain ⟨u2, u3, u4⟩ := u
    try dsimp only at hw6
    rcases hw6 with ⟨hg6, rfl⟩ | ⟨hg6, rfl⟩
    · skip
      have hH := (hH : fx_H zA zs.heap H locs D [(h, .inr (9, [.int (nI now), .int (nI wk), .ref zcoins, .ref zdebt, .ref zfines, .ref zreading, .int (nI rk), .ref zruleYear, .ref zruleWhat, .ref zruleShare, .int (nI k), .ref zstate, .ref zholder, .ref zyearOf, .ref zusedIn, .ref zprojectOf, .ref zwent, .int ii, .int (nI bk), .ref zbidWorks, .ref zbidMany, .ref zbidPrice, .int ac, .int (nI pj), .ref zisFalse, .ref zcutMany, .ref ztonnes, .ref zcosts, .ref zgiven, .ref zcutOff, .ref zgot, .ref zcutsOf, .int u2, .int u3])), (zcutMany, .inl (cI, 10, .inl CM)), (ztonnes, .inl (cI, 40, .inl TN)), (zcosts, .inl (cI, 40, .inl CS)), (zcutsOf, .inl (cI, 10, .inl u4))])
      refine lv_if_eq (tgt := 19) zx zy dX9_least_9 (by decide) (fun c9 => ?_) (fun c9 => ?_)
      · exact absurd c9 (by decide)
      · skip
        refine lv_aload_n zx zy dX9_least_12 rfl (lv_at hl 0 rfl) ?_
        refine fx_get (C := RX9) (T := TX9) (N := 34) hC (fun _ h => List.mem_cons_of_mem _ (List.mem_append_right _ h)) hH 0 rfl rfl 32 (by decide) (by decide +kernel) rfl dX9_least_13 ?_
        refine lv_goto (tgt := 20) zx zy dX9_least_16 (by decide) ?_
        exact fx_iret (v := u2) hQ hC hr hlk hH dX9_least_20 rfl (Nat.le_of_ble_eq_true rfl) (Nat.le_of_ble_eq_true rfl) ((u2, u3, u4)) rfl (by first | exact Or.inl ⟨⟨c1, hg6.1⟩, hg6.2.1⟩ | exact Or.inr ⟨fun z => hg6 z.2, rfl⟩ | exact Or.inr ⟨fun z => z.1 c1, rfl⟩)
    · skip
      have hH := (hH : fx_H zA zs.heap H locs D [(h, .inr (9, [.int (nI now), .int (nI wk), .ref zcoins, .ref zdebt, .ref zfines, .ref zreading, .int (nI rk), .ref zruleYear, .ref zruleWhat, .ref zruleShare, .int (nI k), .ref zstate, .ref zholder, .ref zyearOf, .ref zusedIn, .ref zprojectOf, .ref zwent, .int ii, .int (nI bk), .ref zbidWorks, .ref zbidMany, .ref zbidPrice, .int ac, .int (nI pj), .ref zisFalse, .ref zcutMany, .ref ztonnes, .ref zcosts, .ref zgiven, .ref zcutOff, .ref zgot, .ref zcutsOf, .int u2, .int u3])), (zcutMany, .inl (cI, 10, .inl CM)), (ztonnes, .inl (cI, 40, .inl TN)), (zcosts, .inl (cI, 40, .inl CS)), (zcutsOf, .inl (cI, 10, .inl u4))])
      refine lv_if_eq (tgt := 19) zx zy dX9_least_9 (by decide) (fun c9 => ?_) (fun c9 => ?_)
      · skip
        refine lv_iconst (v := (-1)) zx zy dX9_least_19 (by decide) ?_
        exact fx_iret (v := (-1)) hQ hC hr hlk hH dX9_least_20 rfl (Nat.le_of_ble_eq_true rfl) (Nat.le_of_ble_eq_true rfl) ((u2, u3, u4)) rfl (by first | exact Or.inl ⟨⟨c1, hg6.1⟩, hg6.2.1⟩ | exact Or.inr ⟨fun z => hg6 z.2, rfl⟩ | exact Or.inr ⟨fun z => z.1 c1, rfl⟩)
      · exact absurd c9 (by decide)
set_option maxHeartbeats 4000000 in
set_option maxRecDepth 100000 in
theorem k_X9_margin (l : Launch) (D : va_G) (cI cZ : ClassId) (h : Nat) (zcoins : Nat) (zdebt : Nat) (zfines : Nat) (zreading : Nat) (zruleYear : Nat) (zruleWhat : Nat) (zruleShare : Nat) (zstate : Nat) (zholder : Nat) (zyearOf : Nat) (zusedIn : Nat) (zprojectOf : Nat) (zwent : Nat) (zbidWorks : Nat) (zbidMany : Nat) (zbidPrice : Nat) (zisFalse : Nat) (zcutMany : Nat) (ztonnes : Nat) (zcosts : Nat) (zgiven : Nat) (zcutOff : Nat) (zgot : Nat) (zcutsOf : Nat) (now : Nat) (wk : Nat) (rk : Nat) (k : Nat) (ii : Int32) (bk : Nat) (ac : Int32) (pj : Nat) (sm : Int32) (mg : Int32) (CM : Nat → Int32) (TN : Nat → Int32) (CS : Nat → Int32) (CF : Nat → Int32) (T0 : Nat → Int32) (T1 : Nat → Int32) (T2 : Nat → Int32) (ck : Nat) (s : Nat → Nat) (n : Int32) (hck : ck ≤ 40) (hCM : ∀ w, w < 10 → ∃ e, e ≤ 4 ∧ CM w = nI e) (hR : ctR T0 T1 T2 ck CM TN CS s) : fx_CI l D cI cZ yX9_margin wsX9_margin ({ frames := 1, cells := 0, slots := 0, locals := 25 }) [.ref h, .int n] [(h, .inr (9, [.int (nI now), .int (nI wk), .ref zcoins, .ref zdebt, .ref zfines, .ref zreading, .int (nI rk), .ref zruleYear, .ref zruleWhat, .ref zruleShare, .int (nI k), .ref zstate, .ref zholder, .ref zyearOf, .ref zusedIn, .ref zprojectOf, .ref zwent, .int ii, .int (nI bk), .ref zbidWorks, .ref zbidMany, .ref zbidPrice, .int ac, .int (nI pj), .ref zisFalse, .ref zcutMany, .ref ztonnes, .ref zcosts, .ref zgiven, .ref zcutOff, .ref zgot, .ref zcutsOf, .int sm, .int mg])), (zcutMany, .inl (cI, 10, .inl CM)), (ztonnes, .inl (cI, 40, .inl TN)), (zcosts, .inl (cI, 40, .inl CS)), (zcutsOf, .inl (cI, 10, .inl CF))] (fun (u : (Int32) × (Int32) × (Nat → Int32)) => [(h, .inr (9, [.int (nI now), .int (nI wk), .ref zcoins, .ref zdebt, .ref zfines, .ref zreading, .int (nI rk), .ref zruleYear, .ref zruleWhat, .ref zruleShare, .int (nI k), .ref zstate, .ref zholder, .ref zyearOf, .ref zusedIn, .ref zprojectOf, .ref zwent, .int ii, .int (nI bk), .ref zbidWorks, .ref zbidMany, .ref zbidPrice, .int ac, .int (nI pj), .ref zisFalse, .ref zcutMany, .ref ztonnes, .ref zcosts, .ref zgiven, .ref zcutOff, .ref zgot, .ref zcutsOf, .int u.1, .int u.2.1])), (zcutMany, .inl (cI, 10, .inl CM)), (ztonnes, .inl (cI, 40, .inl TN)), (zcosts, .inl (cI, 40, .inl CS)), (zcutsOf, .inl (cI, 10, .inl u.2.2))]) (fun (r : Int32) (u : (Int32) × (Int32) × (Nat → Int32)) => ((¬ n < 0 ∧ csL T1 n ck = 0) ∧ r = mgI T1 T2 n ck) ∨ (¬ (¬ n < 0 ∧ csL T1 n ck = 0) ∧ r = -1)) := by
  refine fx_CI.of (ws' := (wsX9_margin).tail) cX9_margin 2 (by decide) rfl (Nat.le_of_ble_eq_true rfl) ?_
  intro zp ze zs zm za zb zt zc zA ls zQ hQ hC hr hlk hA hH hl
  have zx := hC.1.1
  have zy := hC.1.2.1
  have hl : lv_has ls 2 [(0, .ref h), (1, .int n)] := hl
  refine lv_iload_n zx zy dX9_margin_0 rfl (lv_at hl 1 rfl) ?_
  refine lv_if_lt (tgt := 19) zx zy dX9_margin_1 (by decide) (fun c1 => ?_) (fun c1 => ?_)
  · skip
    refine lv_iconst (v := (-1)) zx zy dX9_margin_19 (by decide) ?_
    exact fx_iret (v := (-1)) hQ hC hr hlk hH dX9_margin_20 rfl (Nat.le_of_ble_eq_true rfl) (Nat.le_of_ble_eq_true rfl) ((sm, mg, CF)) rfl (by first | exact Or.inl ⟨⟨c1, hg6.1⟩, hg6.2.2.1⟩ | exact Or.inr ⟨fun z => hg6 z.2, rfl⟩ | exact Or.inr ⟨fun z => z.1 c1, rfl⟩)
  · skip
    obtain ⟨m1, hm1, rfl⟩ := nI_of c1
    have hl := (hl : lv_has ls 2 [(0, .ref h), (1, .int (nI m1))])
    refine lv_aload_n zx zy dX9_margin_4 rfl (lv_at hl 0 rfl) ?_
    refine lv_iload_n zx zy dX9_margin_5 rfl (lv_at hl 1 rfl) ?_
    refine fx_cVi (n := 1) (As := [.int (nI m1)]) (b := h) (rest := []) (fun (u : (Int32) × (Int32) × (Nat → Int32)) => [(h, .inr (9, [.int (nI now), .int (nI wk), .ref zcoins, .ref zdebt, .ref zfines, .ref zreading, .int (nI rk), .ref zruleYear, .ref zruleWhat, .ref zruleShare, .int (nI k), .ref zstate, .ref zholder, .ref zyearOf, .ref zusedIn, .ref zprojectOf, .ref zwent, .int ii, .int (nI bk), .ref zbidWorks, .ref zbidMany, .ref zbidPrice, .int ac, .int (nI pj), .ref zisFalse, .ref zcutMany, .ref ztonnes, .ref zcosts, .ref zgiven, .ref zcutOff, .ref zgot, .ref zcutsOf, .int u.1, .int u.2.1])), (zcutMany, .inl (cI, 10, .inl CM)), (ztonnes, .inl (cI, 40, .inl TN)), (zcosts, .inl (cI, 40, .inl CS)), (zcutsOf, .inl (cI, 10, .inl u.2.2))]) hC hA hH (k_X9_cutsAll l D cI cZ h zcoins zdebt zfines zreading zruleYear zruleWhat zruleShare zstate zholder zyearOf zusedIn zprojectOf zwent zbidWorks zbidMany zbidPrice zisFalse zcutMany ztonnes zcosts zgiven zcutOff zgot zcutsOf now wk rk k ii bk ac pj sm mg CM TN CS CF T0 T1 T2 ck s m1 (by first | assumption | omega) (by first | assumption | omega) (by first | assumption | omega) (by first | assumption | omega)) [0, 1, 2, 3, 4] [] [0, 1, 2, 3, 4] [] rfl rfl (by decide) (by decide) (fun _ => rfl) rfl gX9_margin_X9_cutsAll (by decide +kernel) ⟨Nat.le_of_ble_eq_true rfl, Nat.le_of_ble_eq_true rfl⟩ 0 rfl rfl rfl rfl rfl hl.1 (Nat.le_of_ble_eq_true rfl) ⟨Nat.le_of_ble_eq_true rfl, Nat.le_of_ble_eq_true rfl⟩ dX9_margin_6 (fun r1 u H locs hw6 hH => ?_)
    obtain ⟨u2, u3, u4⟩ := u
    try dsimp only at hw6
    rcases hw6 with ⟨hg6, rfl⟩ | ⟨hg6, rfl⟩
    · skip
      have hH := (hH : fx_H zA zs.heap H locs D [(h, .inr (9, [.int (nI now), .int (nI wk), .ref zcoins, .ref zdebt, .ref zfines, .ref zreading, .int (nI rk), .ref zruleYear, .ref zruleWhat, .ref zruleShare, .int (nI k), .ref zstate, .ref zholder, .ref zyearOf, .ref zusedIn, .ref zprojectOf, .ref zwent, .int ii, .int (nI bk), .ref zbidWorks, .ref zbidMany, .ref zbidPrice, .int ac, .int (nI pj), .ref zisFalse, .ref zcutMany, .ref ztonnes, .ref zcosts, .ref zgiven, .ref zcutOff, .ref zgot, .ref zcutsOf, .int u2, .int u3])), (zcutMany, .inl (cI, 10, .inl CM)), (ztonnes, .inl (cI, 40, .inl TN)), (zcosts, .inl (cI, 40, .inl CS)), (zcutsOf, .inl (cI, 10, .inl u4))])
      refine lv_if_eq (tgt := 19) zx zy dX9_margin_9 (by decide) (fun c9 => ?_) (fun c9 => ?_)
      · exact absurd c9 (by decide)
      · skip
        refine lv_aload_n zx zy dX9_margin_12 rfl (lv_at hl 0 rfl) ?_
        refine fx_get (C := RX9) (T := TX9) (N := 34) hC (fun _ h => List.mem_cons_of_mem _ (List.mem_append_right _ h)) hH 0 rfl rfl 33 (by decide) (by decide +kernel) rfl dX9_margin_13 ?_
        refine lv_goto (tgt := 20) zx zy dX9_margin_16 (by decide) ?_
        exact fx_iret (v := u3) hQ hC hr hlk hH dX9_margin_20 rfl (Nat.le_of_ble_eq_true rfl) (Nat.le_of_ble_eq_true rfl) ((u2, u3, u4)) rfl (by first | exact Or.inl ⟨⟨c1, hg6.1⟩, hg6.2.2.1⟩ | exact Or.inr ⟨fun z => hg6 z.2, rfl⟩ | exact Or.inr ⟨fun z => z.1 c1, rfl⟩)
    · skip
      have hH := (hH : fx_H zA zs.heap H locs D [(h, .inr (9, [.int (nI now), .int (nI wk), .ref zcoins, .ref zdebt, .ref zfines, .ref zreading, .int (nI rk), .ref zruleYear, .ref zruleWhat, .ref zruleShare, .int (nI k), .ref zstate, .ref zholder, .ref zyearOf, .ref zusedIn, .ref zprojectOf, .ref zwent, .int ii, .int (nI bk), .ref zbidWorks, .ref zbidMany, .ref zbidPrice, .int ac, .int (nI pj), .ref zisFalse, .ref zcutMany, .ref ztonnes, .ref zcosts, .ref zgiven, .ref zcutOff, .ref zgot, .ref zcutsOf, .int u2, .int u3])), (zcutMany, .inl (cI, 10, .inl CM)), (ztonnes, .inl (cI, 40, .inl TN)), (zcosts, .inl (cI, 40, .inl CS)), (zcutsOf, .inl (cI, 10, .inl u4))])
      refine lv_if_eq (tgt := 19) zx zy dX9_margin_9 (by decide) (fun c9 => ?_) (fun c9 => ?_)
      · skip
        refine lv_iconst (v := (-1)) zx zy dX9_margin_19 (by decide) ?_
        exact fx_iret (v := (-1)) hQ hC hr hlk hH dX9_margin_20 rfl (Nat.le_of_ble_eq_true rfl) (Nat.le_of_ble_eq_true rfl) ((u2, u3, u4)) rfl (by first | exact Or.inl ⟨⟨c1, hg6.1⟩, hg6.2.2.1⟩ | exact Or.inr ⟨fun z => hg6 z.2, rfl⟩ | exact Or.inr ⟨fun z => z.1 c1, rfl⟩)
      · exact absurd c9 (by decide)
set_option maxHeartbeats 4000000 in
set_option maxRecDepth 100000 in
theorem k_X9_cuts (l : Launch) (D : va_G) (cI cZ : ClassId) (h : Nat) (zcoins : Nat) (zdebt : Nat) (zfines : Nat) (zreading : Nat) (zruleYear : Nat) (zruleWhat : Nat) (zruleShare : Nat) (zstate : Nat) (zholder : Nat) (zyearOf : Nat) (zusedIn : Nat) (zprojectOf : Nat) (zwent : Nat) (zbidWorks : Nat) (zbidMany : Nat) (zbidPrice : Nat) (zisFalse : Nat) (zcutMany : Nat) (ztonnes : Nat) (zcosts : Nat) (zgiven : Nat) (zcutOff : Nat) (zgot : Nat) (zcutsOf : Nat) (now : Nat) (wk : Nat) (rk : Nat) (k : Nat) (ii : Int32) (bk : Nat) (ac : Int32) (pj : Nat) (sm : Int32) (mg : Int32) (CM : Nat → Int32) (TN : Nat → Int32) (CS : Nat → Int32) (CF : Nat → Int32) (T0 : Nat → Int32) (T1 : Nat → Int32) (T2 : Nat → Int32) (ck : Nat) (s : Nat → Nat) (n : Int32) (x : Int32) (hwk : wk ≤ 10) (hck : ck ≤ 40) (hCM : ∀ w, w < 10 → ∃ e, e ≤ 4 ∧ CM w = nI e) (hR : ctR T0 T1 T2 ck CM TN CS s) : fx_CI l D cI cZ yX9_cuts wsX9_cuts ({ frames := 2, cells := 0, slots := 0, locals := 43 }) [.ref h, .int n, .int x] [(h, .inr (9, [.int (nI now), .int (nI wk), .ref zcoins, .ref zdebt, .ref zfines, .ref zreading, .int (nI rk), .ref zruleYear, .ref zruleWhat, .ref zruleShare, .int (nI k), .ref zstate, .ref zholder, .ref zyearOf, .ref zusedIn, .ref zprojectOf, .ref zwent, .int ii, .int (nI bk), .ref zbidWorks, .ref zbidMany, .ref zbidPrice, .int ac, .int (nI pj), .ref zisFalse, .ref zcutMany, .ref ztonnes, .ref zcosts, .ref zgiven, .ref zcutOff, .ref zgot, .ref zcutsOf, .int sm, .int mg])), (zcutMany, .inl (cI, 10, .inl CM)), (ztonnes, .inl (cI, 40, .inl TN)), (zcosts, .inl (cI, 40, .inl CS)), (zcutsOf, .inl (cI, 10, .inl CF))] (fun (u : (Int32) × (Int32) × (Nat → Int32)) => [(h, .inr (9, [.int (nI now), .int (nI wk), .ref zcoins, .ref zdebt, .ref zfines, .ref zreading, .int (nI rk), .ref zruleYear, .ref zruleWhat, .ref zruleShare, .int (nI k), .ref zstate, .ref zholder, .ref zyearOf, .ref zusedIn, .ref zprojectOf, .ref zwent, .int ii, .int (nI bk), .ref zbidWorks, .ref zbidMany, .ref zbidPrice, .int ac, .int (nI pj), .ref zisFalse, .ref zcutMany, .ref ztonnes, .ref zcosts, .ref zgiven, .ref zcutOff, .ref zgot, .ref zcutsOf, .int u.1, .int u.2.1])), (zcutMany, .inl (cI, 10, .inl CM)), (ztonnes, .inl (cI, 40, .inl TN)), (zcosts, .inl (cI, 40, .inl CS)), (zcutsOf, .inl (cI, 10, .inl u.2.2))]) (fun (r : Int32) (u : (Int32) × (Int32) × (Nat → Int32)) => (∃ w, (w < wk ∧ x = nI w ∧ ¬ n < 0 ∧ csL T1 n ck = 0) ∧ r = csP T0 T1 n (nI w) ck) ∨ ((∀ w, ¬ (w < wk ∧ x = nI w ∧ ¬ n < 0 ∧ csL T1 n ck = 0)) ∧ r = -1)) := by
  refine fx_CI.of (ws' := (wsX9_cuts).tail) cX9_cuts 3 (by decide) rfl (Nat.le_of_ble_eq_true rfl) ?_
  intro zp ze zs zm za zb zt zc zA ls zQ hQ hC hr hlk hA hH hl
  have zx := hC.1.1
  have zy := hC.1.2.1
  have hl : lv_has ls 3 [(0, .ref h), (1, .int n), (2, .int x)] := hl
  refine lv_iload_n zx zy dX9_cuts_0 rfl (lv_at hl 1 rfl) ?_
  refine lv_if_lt (tgt := 29) zx zy dX9_cuts_1 (by decide) (fun c1 => ?_) (fun c1 => ?_)
  · skip
    refine lv_iconst (v := (-1)) zx zy dX9_cuts_29 (by decide) ?_
    exact fx_iret (v := (-1)) hQ hC hr hlk hH dX9_cuts_30 rfl (Nat.le_of_ble_eq_true rfl) (Nat.le_of_ble_eq_true rfl) ((sm, mg, CF)) rfl (by first | exact Or.inl ⟨j6, ⟨hj6, rfl, c1, hg14.1⟩, hg14.2.2.2 j6 (by omega)⟩ | exact Or.inr ⟨fun w z => z.2.2.1 c1, rfl⟩ | exact Or.inr ⟨fun w z => hg6 ⟨w, z.1, z.2.1⟩, rfl⟩ | exact Or.inr ⟨fun w z => hg14 z.2.2.2, rfl⟩)
  · skip
    obtain ⟨m1, hm1, rfl⟩ := nI_of c1
    have hl := (hl : lv_has ls 3 [(0, .ref h), (1, .int (nI m1)), (2, .int x)])
    refine lv_aload_n zx zy dX9_cuts_4 rfl (lv_at hl 0 rfl) ?_
    refine lv_iload_n zx zy dX9_cuts_5 rfl (lv_at hl 2 rfl) ?_
    refine fx_cVi (n := 1) (As := [.int x]) (b := h) (rest := []) (fun (u : Unit) => [(h, .inr (9, [.int (nI now), .int (nI wk), .ref zcoins, .ref zdebt, .ref zfines, .ref zreading, .int (nI rk), .ref zruleYear, .ref zruleWhat, .ref zruleShare, .int (nI k), .ref zstate, .ref zholder, .ref zyearOf, .ref zusedIn, .ref zprojectOf, .ref zwent, .int ii, .int (nI bk), .ref zbidWorks, .ref zbidMany, .ref zbidPrice, .int ac, .int (nI pj), .ref zisFalse, .ref zcutMany, .ref ztonnes, .ref zcosts, .ref zgiven, .ref zcutOff, .ref zgot, .ref zcutsOf, .int sm, .int mg])), (zcutMany, .inl (cI, 10, .inl CM)), (ztonnes, .inl (cI, 40, .inl TN)), (zcosts, .inl (cI, 40, .inl CS)), (zcutsOf, .inl (cI, 10, .inl CF))]) hC hA hH (k_X9_isWorks l D cI cZ h zcoins zdebt zfines zreading zruleYear zruleWhat zruleShare zstate zholder zyearOf zusedIn zprojectOf zwent zbidWorks zbidMany zbidPrice zisFalse zcutMany ztonnes zcosts zgiven zcutOff zgot zcutsOf now wk rk k ii bk ac pj sm mg x (by first | assumption | omega)) [0] [1, 2, 3, 4] [4, 0, 1, 2, 3] [(zcutMany, .inl (cI, 10, .inl CM)), (ztonnes, .inl (cI, 40, .inl TN)), (zcosts, .inl (cI, 40, .inl CS)), (zcutsOf, .inl (cI, 10, .inl CF))] rfl rfl (by decide) (by decide) (fun _ => rfl) rfl gX9_cuts_X9_isWorks (by decide +kernel) ⟨Nat.le_of_ble_eq_true rfl, Nat.le_of_ble_eq_true rfl⟩ 0 rfl rfl rfl rfl rfl hl.1 (Nat.le_of_ble_eq_true rfl) ⟨Nat.le_of_ble_eq_true rfl, Nat.le_of_ble_eq_true rfl⟩ dX9_cuts_6 (fun r1 u H locs hw6 hH => ?_)
    rcases hw6 with ⟨⟨j6, hj6, rfl⟩, rfl⟩ | ⟨hg6, rfl⟩
    · skip
      have hH := (hH : fx_H zA zs.heap H locs D [(h, .inr (9, [.int (nI now), .int (nI wk), .ref zcoins, .ref zdebt, .ref zfines, .ref zreading, .int (nI rk), .ref zruleYear, .ref zruleWhat, .ref zruleShare, .int (nI k), .ref zstate, .ref zholder, .ref zyearOf, .ref zusedIn, .ref zprojectOf, .ref zwent, .int ii, .int (nI bk), .ref zbidWorks, .ref zbidMany, .ref zbidPrice, .int ac, .int (nI pj), .ref zisFalse, .ref zcutMany, .ref ztonnes, .ref zcosts, .ref zgiven, .ref zcutOff, .ref zgot, .ref zcutsOf, .int sm, .int mg])), (zcutMany, .inl (cI, 10, .inl CM)), (ztonnes, .inl (cI, 40, .inl TN)), (zcosts, .inl (cI, 40, .inl CS)), (zcutsOf, .inl (cI, 10, .inl CF))])
      have hl := (hl : lv_has ls 3 [(0, .ref h), (1, .int (nI m1)), (2, .int (nI j6))])
      refine lv_if_eq (tgt := 29) zx zy dX9_cuts_9 (by decide) (fun c9 => ?_) (fun c9 => ?_)
      · exact absurd c9 (by decide)
      · skip
        refine lv_aload_n zx zy dX9_cuts_12 rfl (lv_at hl 0 rfl) ?_
        refine lv_iload_n zx zy dX9_cuts_13 rfl (lv_at hl 1 rfl) ?_
        refine fx_cVi (n := 1) (As := [.int (nI m1)]) (b := h) (rest := []) (fun (u : (Int32) × (Int32) × (Nat → Int32)) => [(h, .inr (9, [.int (nI now), .int (nI wk), .ref zcoins, .ref zdebt, .ref zfines, .ref zreading, .int (nI rk), .ref zruleYear, .ref zruleWhat, .ref zruleShare, .int (nI k), .ref zstate, .ref zholder, .ref zyearOf, .ref zusedIn, .ref zprojectOf, .ref zwent, .int ii, .int (nI bk), .ref zbidWorks, .ref zbidMany, .ref zbidPrice, .int ac, .int (nI pj), .ref zisFalse, .ref zcutMany, .ref ztonnes, .ref zcosts, .ref zgiven, .ref zcutOff, .ref zgot, .ref zcutsOf, .int u.1, .int u.2.1])), (zcutMany, .inl (cI, 10, .inl CM)), (ztonnes, .inl (cI, 40, .inl TN)), (zcosts, .inl (cI, 40, .inl CS)), (zcutsOf, .inl (cI, 10, .inl u.2.2))]) hC hA hH (k_X9_cutsAll l D cI cZ h zcoins zdebt zfines zreading zruleYear zruleWhat zruleShare zstate zholder zyearOf zusedIn zprojectOf zwent zbidWorks zbidMany zbidPrice zisFalse zcutMany ztonnes zcosts zgiven zcutOff zgot zcutsOf now wk rk k ii bk ac pj sm mg CM TN CS CF T0 T1 T2 ck s m1 (by first | assumption | omega) (by first | assumption | omega) (by first | assumption | omega) (by first | assumption | omega)) [0, 1, 2, 3, 4] [] [0, 1, 2, 3, 4] [] rfl rfl (by decide) (by decide) (fun _ => rfl) rfl gX9_cuts_X9_cutsAll (by decide +kernel) ⟨Nat.le_of_ble_eq_true rfl, Nat.le_of_ble_eq_true rfl⟩ 0 rfl rfl rfl rfl rfl hl.1 (Nat.le_of_ble_eq_true rfl) ⟨Nat.le_of_ble_eq_true rfl, Nat.le_of_ble_eq_true rfl⟩ dX9_cuts_14 (fun r2 u H locs hw14 hH => ?_)
        obtain ⟨u3, u4, u5⟩ := u
        try dsimp only at hw14
        rcases hw14 with ⟨hg14, rfl⟩ | ⟨hg14, rfl⟩
        · skip
          have hH := (hH : fx_H zA zs.heap H locs D [(h, .inr (9, [.int (nI now), .int (nI wk), .ref zcoins, .ref zdebt, .ref zfines, .ref zreading, .int (nI rk), .ref zruleYear, .ref zruleWhat, .ref zruleShare, .int (nI k), .ref zstate, .ref zholder, .ref zyearOf, .ref zusedIn, .ref zprojectOf, .ref zwent, .int ii, .int (nI bk), .ref zbidWorks, .ref zbidMany, .ref zbidPrice, .int ac, .int (nI pj), .ref zisFalse, .ref zcutMany, .ref ztonnes, .ref zcosts, .ref zgiven, .ref zcutOff, .ref zgot, .ref zcutsOf, .int u3, .int u4])), (zcutMany, .inl (cI, 10, .inl CM)), (ztonnes, .inl (cI, 40, .inl TN)), (zcosts, .inl (cI, 40, .inl CS)), (zcutsOf, .inl (cI, 10, .inl u5))])
          refine lv_if_eq (tgt := 29) zx zy dX9_cuts_17 (by decide) (fun c17 => ?_) (fun c17 => ?_)
          · exact absurd c17 (by decide)
          · skip
            refine lv_aload_n zx zy dX9_cuts_20 rfl (lv_at hl 0 rfl) ?_
            refine fx_get (C := RX9) (T := TX9) (N := 34) hC (fun _ h => List.mem_cons_of_mem _ (List.mem_append_right _ h)) hH 0 rfl rfl 31 (by decide) (by decide +kernel) rfl dX9_cuts_21 ?_
            refine lv_iload_n zx zy dX9_cuts_24 rfl (lv_at hl 2 rfl) ?_
            refine fx_ild hC hH 4 rfl (vp_in_nI (by omega) (by omega)) dX9_cuts_25 ?_
            refine lv_topi (fun v6 ev6 => ?_)
            obtain rfl : v6 = u5 j6 := ev6.trans (congrArg u5 (nI_clamp (by omega)))
            refine lv_goto (tgt := 30) zx zy dX9_cuts_26 (by decide) ?_
            exact fx_iret (v := u5 j6) hQ hC hr hlk hH dX9_cuts_30 rfl (Nat.le_of_ble_eq_true rfl) (Nat.le_of_ble_eq_true rfl) ((u3, u4, u5)) rfl (by first | exact Or.inl ⟨j6, ⟨hj6, rfl, c1, hg14.1⟩, hg14.2.2.2 j6 (by omega)⟩ | exact Or.inr ⟨fun w z => z.2.2.1 c1, rfl⟩ | exact Or.inr ⟨fun w z => hg6 ⟨w, z.1, z.2.1⟩, rfl⟩ | exact Or.inr ⟨fun w z => hg14 z.2.2.2, rfl⟩)
        · skip
          have hH := (hH : fx_H zA zs.heap H locs D [(h, .inr (9, [.int (nI now), .int (nI wk), .ref zcoins, .ref zdebt, .ref zfines, .ref zreading, .int (nI rk), .ref zruleYear, .ref zruleWhat, .ref zruleShare, .int (nI k), .ref zstate, .ref zholder, .ref zyearOf, .ref zusedIn, .ref zprojectOf, .ref zwent, .int ii, .int (nI bk), .ref zbidWorks, .ref zbidMany, .ref zbidPrice, .int ac, .int (nI pj), .ref zisFalse, .ref zcutMany, .ref ztonnes, .ref zcosts, .ref zgiven, .ref zcutOff, .ref zgot, .ref zcutsOf, .int u3, .int u4])), (zcutMany, .inl (cI, 10, .inl CM)), (ztonnes, .inl (cI, 40, .inl TN)), (zcosts, .inl (cI, 40, .inl CS)), (zcutsOf, .inl (cI, 10, .inl u5))])
          refine lv_if_eq (tgt := 29) zx zy dX9_cuts_17 (by decide) (fun c17 => ?_) (fun c17 => ?_)
          · skip
            refine lv_iconst (v := (-1)) zx zy dX9_cuts_29 (by decide) ?_
            exact fx_iret (v := (-1)) hQ hC hr hlk hH dX9_cuts_30 rfl (Nat.le_of_ble_eq_true rfl) (Nat.le_of_ble_eq_true rfl) ((u3, u4, u5)) rfl (by first | exact Or.inl ⟨j6, ⟨hj6, rfl, c1, hg14.1⟩, hg14.2.2.2 j6 (by omega)⟩ | exact Or.inr ⟨fun w z => z.2.2.1 c1, rfl⟩ | exact Or.inr ⟨fun w z => hg6 ⟨w, z.1, z.2.1⟩, rfl⟩ | exact Or.inr ⟨fun w z => hg14 z.2.2.2, rfl⟩)
          · exact absurd c17 (by decide)
    · skip
      have hH := (hH : fx_H zA zs.heap H locs D [(h, .inr (9, [.int (nI now), .int (nI wk), .ref zcoins, .ref zdebt, .ref zfines, .ref zreading, .int (nI rk), .ref zruleYear, .ref zruleWhat, .ref zruleShare, .int (nI k), .ref zstate, .ref zholder, .ref zyearOf, .ref zusedIn, .ref zprojectOf, .ref zwent, .int ii, .int (nI bk), .ref zbidWorks, .ref zbidMany, .ref zbidPrice, .int ac, .int (nI pj), .ref zisFalse, .ref zcutMany, .ref ztonnes, .ref zcosts, .ref zgiven, .ref zcutOff, .ref zgot, .ref zcutsOf, .int sm, .int mg])), (zcutMany, .inl (cI, 10, .inl CM)), (ztonnes, .inl (cI, 40, .inl TN)), (zcosts, .inl (cI, 40, .inl CS)), (zcutsOf, .inl (cI, 10, .inl CF))])
      refine lv_if_eq (tgt := 29) zx zy dX9_cuts_9 (by decide) (fun c9 => ?_) (fun c9 => ?_)
      · skip
        refine lv_iconst (v := (-1)) zx zy dX9_cuts_29 (by decide) ?_
        exact fx_iret (v := (-1)) hQ hC hr hlk hH dX9_cuts_30 rfl (Nat.le_of_ble_eq_true rfl) (Nat.le_of_ble_eq_true rfl) ((sm, mg, CF)) rfl (by first | exact Or.inl ⟨j6, ⟨hj6, rfl, c1, hg14.1⟩, hg14.2.2.2 j6 (by omega)⟩ | exact Or.inr ⟨fun w z => z.2.2.1 c1, rfl⟩ | exact Or.inr ⟨fun w z => hg6 ⟨w, z.1, z.2.1⟩, rfl⟩ | exact Or.inr ⟨fun w z => hg14 z.2.2.2, rfl⟩)
      · exact absurd c9 (by decide)
