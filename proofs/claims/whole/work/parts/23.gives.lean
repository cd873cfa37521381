theorem preF_upd {f g : Nat → Int32} {i : Nat} {v : Int32} (hv : v = g i) : upd (preF f g i) i v = preF f g (i + 1) := by
  rw [hv]
  funext j
  simp only [upd, preF]
  by_cases e : j = i
  · subst e; rw [if_pos rfl, if_pos (by omega)]
  · rw [if_neg e]
    by_cases e2 : j < i
    · rw [if_pos e2, if_pos (by omega)]
    · rw [if_neg e2, if_neg (by omega)]
theorem preF_in {f g : Nat → Int32} {i j : Nat} (h : j < i) : preF f g i j = g j := if_pos h
def lfI (tg : Int32) (P : Nat → Int32) : Nat → Int32
  | 0 => tg
  | i + 1 => lfI tg P i - P i
def gvI (wk : Nat) : Nat → (Nat → Int32) → (Nat → Int32) → (Nat → Int32) × (Nat → Int32)
  | 0, p, c => (p, c)
  | n + 1, p, c => gvI wk n (upd p (mcB c wk) (p (mcB c wk) + 1)) (upd c (mcB c wk) (-1))
theorem gvI_1 {wk l : Nat} {p c : Nat → Int32} (hl : 0 < l) : gvI wk l p c = gvI wk (l - 1) (upd p (mcB c wk) (p (mcB c wk) + 1)) (upd c (mcB c wk) (-1)) := by
  obtain ⟨m, rfl⟩ : ∃ m, l = m + 1 := ⟨l - 1, by omega⟩
  rfl
def gvP (RD : Nat → Int32) (y wk : Nat) (tg : Int32) : Nat → Int32 := shP tg (fouA RD y wk) (fun j => fouV RD j y)
def gvC (RD : Nat → Int32) (y wk : Nat) (tg : Int32) : Nat → Int32 := shC tg (fouA RD y wk) (fun j => fouV RD j y)
set_option maxHeartbeats 4000000 in
set_option maxRecDepth 100000 in
theorem k_X9_gives (l : Launch) (D : va_G) (cI cZ : ClassId) (h : Nat) (zcoins : Nat) (zdebt : Nat) (zfines : Nat) (zreading : Nat) (zruleYear : Nat) (zruleWhat : Nat) (zruleShare : Nat) (zstate : Nat) (zholder : Nat) (zyearOf : Nat) (zusedIn : Nat) (zprojectOf : Nat) (zwent : Nat) (zbidWorks : Nat) (zbidMany : Nat) (zbidPrice : Nat) (zisFalse : Nat) (zcutMany : Nat) (ztonnes : Nat) (zcosts : Nat) (zgiven : Nat) (zcutOff : Nat) (zgot : Nat) (zcutsOf : Nat) (now : Nat) (wk : Nat) (rk : Nat) (k : Nat) (ii : Int32) (bk : Nat) (ac : Int32) (pj : Nat) (sm : Int32) (mg : Int32) (RD : Nat → Int32) (GV : Nat → Int32) (CU : Nat → Int32) (tg : Int32) (lq : Nat) (hwk : wk ≤ 10) (hnow : now < 20) (hRD : ∀ j, j < 800 → RD j = -1 ∨ ∃ v, v < 100 ∧ RD j = nI v) (hall : fouA RD (now - 1) wk = 0 ∨ ¬ fouA RD (now - 1) wk ≤ 0) (hlq : ¬ now = 0 → ¬ fouA RD (now - 1) wk = 0 → lfI tg (gvP RD (now - 1) wk tg) wk = nI lq) (hlB : lq < 2 ^ 31) : fx_CV l D cI cZ yX9_gives wsX9_gives ({ frames := 3, cells := 0, slots := 0, locals := 70 }) [.ref h, .int tg] [(h, .inr (9, [.int (nI now), .int (nI wk), .ref zcoins, .ref zdebt, .ref zfines, .ref zreading, .int (nI rk), .ref zruleYear, .ref zruleWhat, .ref zruleShare, .int (nI k), .ref zstate, .ref zholder, .ref zyearOf, .ref zusedIn, .ref zprojectOf, .ref zwent, .int ii, .int (nI bk), .ref zbidWorks, .ref zbidMany, .ref zbidPrice, .int ac, .int (nI pj), .ref zisFalse, .ref zcutMany, .ref ztonnes, .ref zcosts, .ref zgiven, .ref zcutOff, .ref zgot, .ref zcutsOf, .int sm, .int mg])), (zreading, .inl (cI, 800, .inl RD)), (zgiven, .inl (cI, 10, .inl GV)), (zcutOff, .inl (cI, 10, .inl CU))] (fun (u : (Nat → Int32) × (Nat → Int32)) => [(h, .inr (9, [.int (nI now), .int (nI wk), .ref zcoins, .ref zdebt, .ref zfines, .ref zreading, .int (nI rk), .ref zruleYear, .ref zruleWhat, .ref zruleShare, .int (nI k), .ref zstate, .ref zholder, .ref zyearOf, .ref zusedIn, .ref zprojectOf, .ref zwent, .int ii, .int (nI bk), .ref zbidWorks, .ref zbidMany, .ref zbidPrice, .int ac, .int (nI pj), .ref zisFalse, .ref zcutMany, .ref ztonnes, .ref zcosts, .ref zgiven, .ref zcutOff, .ref zgot, .ref zcutsOf, .int sm, .int mg])), (zreading, .inl (cI, 800, .inl RD)), (zgiven, .inl (cI, 10, .inl u.1)), (zcutOff, .inl (cI, 10, .inl u.2))]) (fun (u : (Nat → Int32) × (Nat → Int32)) => ((((now = 0 ∨ fouA RD (now - 1) wk = 0) ∧ ∀ j, j < 10 → u.1 j = 0) ∨ ((¬ now = 0 ∧ ¬ fouA RD (now - 1) wk = 0) ∧ ∃ z : Nat → Int32, (∀ j, j < 10 → z j = 0) ∧ u.1 = (gvI wk lq (preF z (gvP RD (now - 1) wk tg) wk) (preF CU (gvC RD (now - 1) wk tg) wk)).1)))) := by
  refine fx_CV.of (ws' := (wsX9_gives).tail) cX9_gives 6 (by decide) rfl (Nat.le_of_ble_eq_true rfl) ?_
  intro zp ze zs zm za zb zt zc zA ls zQ hQ hC hr hlk hnm hA hH hl
  have zx := hC.1.1
  have zy := hC.1.2.1
  have hl : lv_has ls 6 [(0, .ref h), (1, .int tg)] := hl
  refine lv_iconst (v := 0) zx zy dX9_gives_0 (by decide) ?_
  refine lv_istore_n (lv' := [(2, .int 0), (0, .ref h), (1, .int tg)]) zx zy dX9_gives_1 rfl hl (by decide) rfl (fun ls hl => ?_)
  refine lv_iconst (v := 0) zx zy dX9_gives_2 (by decide) ?_
  refine lv_topi (fun v1 ev1 => ?_)
  obtain rfl : v1 = nI 0 := ev1.trans (rfl)
  refine lv_istore_n (lv' := [(3, .int (nI 0)), (2, .int 0), (0, .ref h), (1, .int tg)]) zx zy dX9_gives_3 rfl hl (by decide) rfl (fun ls hl => ?_)
  have L4 : ∀ (fu : Nat) (i : Nat) (hi : i ≤ 10) (H : Heap) (locs : List Loc) (ls : Array Slot), 10 - i < fu → fx_H zA zs.heap H locs D [(h, .inr (9, [.int (nI now), .int (nI wk), .ref zcoins, .ref zdebt, .ref zfines, .ref zreading, .int (nI rk), .ref zruleYear, .ref zruleWhat, .ref zruleShare, .int (nI k), .ref zstate, .ref zholder, .ref zyearOf, .ref zusedIn, .ref zprojectOf, .ref zwent, .int ii, .int (nI bk), .ref zbidWorks, .ref zbidMany, .ref zbidPrice, .int ac, .int (nI pj), .ref zisFalse, .ref zcutMany, .ref ztonnes, .ref zcosts, .ref zgiven, .ref zcutOff, .ref zgot, .ref zcutsOf, .int sm, .int mg])), (zreading, .inl (cI, 800, .inl RD)), (zgiven, .inl (cI, 10, .inl (preF GV (fun _ => 0) i))), (zcutOff, .inl (cI, 10, .inl CU))] → lv_has ls 6 [(0, .ref h), (1, .int tg), (2, .int 0), (3, .int (nI i))] → W zp l ze ({ frames := 3, cells := 0, slots := 0, locals := 70 }) zs zm za zb zt zc H locs (0) (0) zQ (F0 zm 4 ls []) := by
    intro fu
    induction fu with
    | zero => intro i hi H locs ls hfu; exact absurd hfu (Nat.not_lt_zero _)
    | succ fu ih4 =>
      intro i hi H locs ls hfu4 hH hl
      refine lv_iload_n zx zy dX9_gives_4 rfl (lv_at hl 3 rfl) ?_
      refine lv_bipush (v := 10) zx zy dX9_gives_5 (by decide) ?_
      refine lv_icmp_ge (tgt := 23) zx zy dX9_gives_7 (by decide) (fun c7 => ?_) (fun c7 => ?_)
      · skip
        have hi10 : i = 10 := Nat.le_antisymm hi (fx_le_of (a := 10) c7 (by omega) (by omega))
        rw [hi10] at hH
        refine lv_iconst (v := 0) zx zy dX9_gives_23 (by decide) ?_
        refine lv_topi (fun v2 ev2 => ?_)
        obtain rfl : v2 = nI 0 := ev2.trans (rfl)
        refine lv_istore_n (lv' := [(3, .int (nI 0)), (0, .ref h), (1, .int tg), (2, .int 0)]) zx zy dX9_gives_24 rfl hl (by decide) rfl (fun ls hl => ?_)
        have L25 : ∀ (fu : Nat) (j : Nat) (al : Int32) (hj : j ≤ wk) (hal : al = fouA RD (now - 1) j) (hn0 : now = 0 → j = 0) (H : Heap) (locs : List Loc) (ls : Array Slot), wk - j < fu → fx_H zA zs.heap H locs D [(h, .inr (9, [.int (nI now), .int (nI wk), .ref zcoins, .ref zdebt, .ref zfines, .ref zreading, .int (nI rk), .ref zruleYear, .ref zruleWhat, .ref zruleShare, .int (nI k), .ref zstate, .ref zholder, .ref zyearOf, .ref zusedIn, .ref zprojectOf, .ref zwent, .int ii, .int (nI bk), .ref zbidWorks, .ref zbidMany, .ref zbidPrice, .int ac, .int (nI pj), .ref zisFalse, .ref zcutMany, .ref ztonnes, .ref zcosts, .ref zgiven, .ref zcutOff, .ref zgot, .ref zcutsOf, .int sm, .int mg])), (zreading, .inl (cI, 800, .inl RD)), (zgiven, .inl (cI, 10, .inl (preF GV (fun _ => 0) 10))), (zcutOff, .inl (cI, 10, .inl CU))] → lv_has ls 6 [(0, .ref h), (1, .int tg), (2, .int al), (3, .int (nI j))] → W zp l ze ({ frames := 3, cells := 0, slots := 0, locals := 70 }) zs zm za zb zt zc H locs (0) (0) zQ (F0 zm 25 ls []) := by
          intro fu
          induction fu with
          | zero => intro j al hj hal hn0 H locs ls hfu; exact absurd hfu (Nat.not_lt_zero _)
          | succ fu ih25 =>
            intro j al hj hal hn0 H locs ls hfu25 hH hl
            refine lv_iload_n zx zy dX9_gives_25 rfl (lv_at hl 3 rfl) ?_
            refine lv_aload_n zx zy dX9_gives_26 rfl (lv_at hl 0 rfl) ?_
            refine fx_get (C := RX9) (T := TX9) (N := 34) hC (fun _ h => List.mem_cons_of_mem _ (List.mem_append_right _ h)) hH 0 rfl rfl 1 (by decide) (by decide +kernel) rfl dX9_gives_27 ?_
            refine lv_icmp_ge (tgt := 60) zx zy dX9_gives_30 (by decide) (fun c30 => ?_) (fun c30 => ?_)
            · skip
              have hjw : j = wk := Nat.le_antisymm hj (fx_le_of c30 (by omega) (by omega))
              refine lv_iload_n zx zy dX9_gives_60 rfl (lv_at hl 2 rfl) ?_
              refine lv_if_ne (tgt := 65) zx zy dX9_gives_61 (by decide) (fun c61 => ?_) (fun c61 => ?_)
              · skip
                have hnz2 : ¬ now = 0 := fun e => c61 (by rw [hal, hn0 e]; rfl)
                have hjw2 : j = wk := by first | exact hjw | exact absurd hnz hnz2
                have hal2 : al = fouA RD (now - 1) wk := by rw [hal, hjw2]
                have hal3 : ¬ fouA RD (now - 1) wk = 0 := fun e => c61 (hal2.trans e)
                have hal4 := hall.resolve_left hal3
                have hwk1 : 1 ≤ wk := Nat.pos_of_ne_zero (fun e => hal3 (by rw [e]; rfl))
                have hl := (hal2 ▸ hl : lv_has ls 6 [(0, .ref h), (1, .int tg), (2, .int (fouA RD (now - 1) wk)), (3, .int (nI j))])
                refine lv_iload_n zx zy dX9_gives_65 rfl (lv_at hl 1 rfl) ?_
                refine lv_istore_n (lv' := [(3, .int tg), (0, .ref h), (1, .int tg), (2, .int (fouA RD (now - 1) wk))]) zx zy dX9_gives_66 rfl hl (by decide) rfl (fun ls hl => ?_)
                refine lv_iconst (v := 0) zx zy dX9_gives_67 (by decide) ?_
                refine lv_topi (fun v3 ev3 => ?_)
                obtain rfl : v3 = nI 0 := ev3.trans (rfl)
                refine lv_istore (lv' := [(4, .int (nI 0)), (3, .int tg), (0, .ref h), (1, .int tg), (2, .int (fouA RD (now - 1) wk))]) zx zy dX9_gives_68 hl (by decide) rfl (fun ls hl => ?_)
                have L70 : ∀ (fu : Nat) (i : Nat) (lf : Int32) (hi : i ≤ wk) (hlf : lf = lfI tg (gvP RD (now - 1) wk tg) i) (H : Heap) (locs : List Loc) (ls : Array Slot), wk - i < fu → fx_H zA zs.heap H locs D [(h, .inr (9, [.int (nI now), .int (nI wk), .ref zcoins, .ref zdebt, .ref zfines, .ref zreading, .int (nI rk), .ref zruleYear, .ref zruleWhat, .ref zruleShare, .int (nI k), .ref zstate, .ref zholder, .ref zyearOf, .ref zusedIn, .ref zprojectOf, .ref zwent, .int ii, .int (nI bk), .ref zbidWorks, .ref zbidMany, .ref zbidPrice, .int ac, .int (nI pj), .ref zisFalse, .ref zcutMany, .ref ztonnes, .ref zcosts, .ref zgiven, .ref zcutOff, .ref zgot, .ref zcutsOf, .int sm, .int mg])), (zreading, .inl (cI, 800, .inl RD)), (zgiven, .inl (cI, 10, .inl (preF (preF GV (fun _ => 0) 10) (gvP RD (now - 1) wk tg) i))), (zcutOff, .inl (cI, 10, .inl (preF CU (gvC RD (now - 1) wk tg) i)))] → lv_has ls 6 [(0, .ref h), (1, .int tg), (2, .int (fouA RD (now - 1) wk)), (3, .int lf), (4, .int (nI i))] → W zp l ze ({ frames := 3, cells := 0, slots := 0, locals := 70 }) zs zm za zb zt zc H locs (0) (0) zQ (F0 zm 70 ls []) := by
                  intro fu
                  induction fu with
                  | zero => intro i lf hi hlf H locs ls hfu; exact absurd hfu (Nat.not_lt_zero _)
                  | succ fu ih70 =>
                    intro i lf hi hlf H locs ls hfu70 hH hl
                    refine lv_iload zx zy dX9_gives_70 (lv_at hl 4 rfl) ?_
                    refine lv_aload_n zx zy dX9_gives_72 rfl (lv_at hl 0 rfl) ?_
                    refine fx_get (C := RX9) (T := TX9) (N := 34) hC (fun _ h => List.mem_cons_of_mem _ (List.mem_append_right _ h)) hH 0 rfl rfl 1 (by decide) (by decide +kernel) rfl dX9_gives_73 ?_
                    refine lv_icmp_ge (tgt := 141) zx zy dX9_gives_76 (by decide) (fun c76 => ?_) (fun c76 => ?_)
                    · skip
                      have hiw : i = wk := Nat.le_antisymm hi (fx_le_of c76 (by omega) (by omega))
                      rw [hiw] at hH
                      have hlf2 : lf = nI lq := by rw [hlf, hiw]; exact hlq hnz2 hal3
                      have hl := (hlf2 ▸ hl : lv_has ls 6 [(0, .ref h), (1, .int tg), (2, .int (fouA RD (now - 1) wk)), (3, .int (nI lq)), (4, .int (nI i))])
                      have L141 : ∀ (fu : Nat) (l5 : Nat) (p : Nat → Int32) (c : Nat → Int32) (hl5 : l5 ≤ lq) (hG : gvI wk l5 p c = gvI wk lq (preF (preF GV (fun _ => 0) 10) (gvP RD (now - 1) wk tg) wk) (preF CU (gvC RD (now - 1) wk tg) wk)) (H : Heap) (locs : List Loc) (ls : Array Slot), l5 < fu → fx_H zA zs.heap H locs D [(h, .inr (9, [.int (nI now), .int (nI wk), .ref zcoins, .ref zdebt, .ref zfines, .ref zreading, .int (nI rk), .ref zruleYear, .ref zruleWhat, .ref zruleShare, .int (nI k), .ref zstate, .ref zholder, .ref zyearOf, .ref zusedIn, .ref zprojectOf, .ref zwent, .int ii, .int (nI bk), .ref zbidWorks, .ref zbidMany, .ref zbidPrice, .int ac, .int (nI pj), .ref zisFalse, .ref zcutMany, .ref ztonnes, .ref zcosts, .ref zgiven, .ref zcutOff, .ref zgot, .ref zcutsOf, .int sm, .int mg])), (zreading, .inl (cI, 800, .inl RD)), (zgiven, .inl (cI, 10, .inl p)), (zcutOff, .inl (cI, 10, .inl c))] → lv_has ls 6 [(0, .ref h), (1, .int tg), (2, .int (fouA RD (now - 1) wk)), (3, .int (nI l5))] → W zp l ze ({ frames := 3, cells := 0, slots := 0, locals := 70 }) zs zm za zb zt zc H locs (0) (0) zQ (F0 zm 141 ls []) := by
                        intro fu
                        induction fu with
                        | zero => intro l5 p c hl5 hG H locs ls hfu; exact absurd hfu (Nat.not_lt_zero _)
                        | succ fu ih141 =>
                          intro l5 p c hl5 hG H locs ls hfu141 hH hl
                          refine lv_iload_n zx zy dX9_gives_141 rfl (lv_at hl 3 rfl) ?_
                          refine lv_if_le (tgt := 212) zx zy dX9_gives_142 (by decide) (fun c142 => ?_) (fun c142 => ?_)
                          · skip
                            have hl00 : l5 = 0 := fx_zero_of c142 (by omega)
                            exact fx_vret hQ hC hr hlk hH dX9_gives_212 (Nat.le_of_ble_eq_true rfl) (Nat.le_of_ble_eq_true rfl) ((p, c)) rfl (Or.inr ⟨⟨hnz2, hal3⟩, _, fun j hj => preF_in (f := GV) (g := fun _ => 0) hj, by rw [← hG, hl00]; rfl⟩)
                          · skip
                            have hl0 : 0 < l5 := fx_pos_of c142 (by omega)
                            refine lv_iconst (v := 0) zx zy dX9_gives_145 (by decide) ?_
                            refine lv_topi (fun v4 ev4 => ?_)
                            obtain rfl : v4 = nI 0 := ev4.trans (rfl)
                            refine lv_istore (lv' := [(4, .int (nI 0)), (0, .ref h), (1, .int tg), (2, .int (fouA RD (now - 1) wk)), (3, .int (nI l5))]) zx zy dX9_gives_146 hl (by decide) rfl (fun ls hl => ?_)
                            refine lv_iconst (v := 1) zx zy dX9_gives_148 (by decide) ?_
                            refine lv_topi (fun v5 ev5 => ?_)
                            obtain rfl : v5 = nI 1 := ev5.trans (rfl)
                            refine lv_istore (lv' := [(5, .int (nI 1)), (4, .int (nI 0)), (0, .ref h), (1, .int tg), (2, .int (fouA RD (now - 1) wk)), (3, .int (nI l5))]) zx zy dX9_gives_149 hl (by decide) rfl (fun ls hl => ?_)
                            have L151 : ∀ (fu : Nat) (i : Nat) (b : Nat) (hi1 : 1 ≤ i) (hi : i ≤ wk) (hb : b = mcB c i) (H : Heap) (locs : List Loc) (ls : Array Slot), wk - i < fu → fx_H zA zs.heap H locs D [(h, .inr (9, [.int (nI now), .int (nI wk), .ref zcoins, .ref zdebt, .ref zfines, .ref zreading, .int (nI rk), .ref zruleYear, .ref zruleWhat, .ref zruleShare, .int (nI k), .ref zstate, .ref zholder, .ref zyearOf, .ref zusedIn, .ref zprojectOf, .ref zwent, .int ii, .int (nI bk), .ref zbidWorks, .ref zbidMany, .ref zbidPrice, .int ac, .int (nI pj), .ref zisFalse, .ref zcutMany, .ref ztonnes, .ref zcosts, .ref zgiven, .ref zcutOff, .ref zgot, .ref zcutsOf, .int sm, .int mg])), (zreading, .inl (cI, 800, .inl RD)), (zgiven, .inl (cI, 10, .inl p)), (zcutOff, .inl (cI, 10, .inl c))] → lv_has ls 6 [(0, .ref h), (1, .int tg), (2, .int (fouA RD (now - 1) wk)), (3, .int (nI l5)), (4, .int (nI b)), (5, .int (nI i))] → W zp l ze ({ frames := 3, cells := 0, slots := 0, locals := 70 }) zs zm za zb zt zc H locs (0) (0) zQ (F0 zm 151 ls []) := by
                              intro fu
                              induction fu with
                              | zero => intro i b hi1 hi hb H locs ls hfu; exact absurd hfu (Nat.not_lt_zero _)
                              | succ fu ih151 =>
                                intro i b hi1 hi hb H locs ls hfu151 hH hl
                                refine lv_iload zx zy dX9_gives_151 (lv_at hl 5 rfl) ?_
                                refine lv_aload_n zx zy dX9_gives_153 rfl (lv_at hl 0 rfl) ?_
                                refine fx_get (C := RX9) (T := TX9) (N := 34) hC (fun _ h => List.mem_cons_of_mem _ (List.mem_append_right _ h)) hH 0 rfl rfl 1 (by decide) (by decide +kernel) rfl dX9_gives_154 ?_
                                refine lv_icmp_ge (tgt := 187) zx zy dX9_gives_157 (by decide) (fun c157 => ?_) (fun c157 => ?_)
                                · skip
                                  have hbe : mcB c wk = b := by rw [hb, Nat.le_antisymm hi (fx_le_of c157 (by omega) (by omega))]
                                  have hb10 : b < 10 := by have := mcB_lt c wk hwk1; omega
                                  refine lv_aload_n zx zy dX9_gives_187 rfl (lv_at hl 0 rfl) ?_
                                  refine fx_get (C := RX9) (T := TX9) (N := 34) hC (fun _ h => List.mem_cons_of_mem _ (List.mem_append_right _ h)) hH 0 rfl rfl 28 (by decide) (by decide +kernel) rfl dX9_gives_188 ?_
                                  refine lv_iload zx zy dX9_gives_191 (lv_at hl 4 rfl) ?_
                                  refine lv_dup2_11 zx zy dX9_gives_193 rfl rfl ?_
                                  refine fx_ild hC hH 2 rfl (vp_in_nI (by omega) (by omega)) dX9_gives_194 ?_
                                  refine lv_topi (fun v6 ev6 => ?_)
                                  obtain rfl : v6 = p b := ev6.trans (congrArg p (nI_clamp (by omega)))
                                  refine lv_iconst (v := 1) zx zy dX9_gives_195 (by decide) ?_
                                  refine lv_iadd zx zy dX9_gives_196 ?_
                                  refine fx_ist (ws2 := [(h, .inr (9, [.int (nI now), .int (nI wk), .ref zcoins, .ref zdebt, .ref zfines, .ref zreading, .int (nI rk), .ref zruleYear, .ref zruleWhat, .ref zruleShare, .int (nI k), .ref zstate, .ref zholder, .ref zyearOf, .ref zusedIn, .ref zprojectOf, .ref zwent, .int ii, .int (nI bk), .ref zbidWorks, .ref zbidMany, .ref zbidPrice, .int ac, .int (nI pj), .ref zisFalse, .ref zcutMany, .ref ztonnes, .ref zcosts, .ref zgiven, .ref zcutOff, .ref zgot, .ref zcutsOf, .int sm, .int mg])), (zreading, .inl (cI, 800, .inl RD)), (zgiven, .inl (cI, 10, .inl (upd p (nI b).toNatClampNeg ((p b) + 1)))), (zcutOff, .inl (cI, 10, .inl c))]) hC hH 2 rfl (vp_in_nI (by omega) (by omega)) rfl dX9_gives_197 (fun H locs hH => ?_)
                                  rw [show (upd p (nI b).toNatClampNeg ((p b) + 1) : Nat → Int32) = upd p b ((p b) + 1) from (by rw [nI_clamp (by omega)])] at hH
                                  refine lv_aload_n zx zy dX9_gives_198 rfl (lv_at hl 0 rfl) ?_
                                  refine fx_get (C := RX9) (T := TX9) (N := 34) hC (fun _ h => List.mem_cons_of_mem _ (List.mem_append_right _ h)) hH 0 rfl rfl 29 (by decide) (by decide +kernel) rfl dX9_gives_199 ?_
                                  refine lv_iload zx zy dX9_gives_202 (lv_at hl 4 rfl) ?_
                                  refine lv_iconst (v := (-1)) zx zy dX9_gives_204 (by decide) ?_
                                  refine fx_ist (ws2 := [(h, .inr (9, [.int (nI now), .int (nI wk), .ref zcoins, .ref zdebt, .ref zfines, .ref zreading, .int (nI rk), .ref zruleYear, .ref zruleWhat, .ref zruleShare, .int (nI k), .ref zstate, .ref zholder, .ref zyearOf, .ref zusedIn, .ref zprojectOf, .ref zwent, .int ii, .int (nI bk), .ref zbidWorks, .ref zbidMany, .ref zbidPrice, .int ac, .int (nI pj), .ref zisFalse, .ref zcutMany, .ref ztonnes, .ref zcosts, .ref zgiven, .ref zcutOff, .ref zgot, .ref zcutsOf, .int sm, .int mg])), (zreading, .inl (cI, 800, .inl RD)), (zgiven, .inl (cI, 10, .inl (upd p b ((p b) + 1)))), (zcutOff, .inl (cI, 10, .inl (upd c (nI b).toNatClampNeg (-1))))]) hC hH 3 rfl (vp_in_nI (by omega) (by omega)) rfl dX9_gives_205 (fun H locs hH => ?_)
                                  rw [show (upd c (nI b).toNatClampNeg (-1) : Nat → Int32) = upd c b (-1) from (by rw [nI_clamp (by omega)])] at hH
                                  refine lv_iinc (v := nI (l5 - 1)) (lv' := [(3, .int (nI (l5 - 1))), (0, .ref h), (1, .int tg), (2, .int (fouA RD (now - 1) wk)), (4, .int (nI b)), (5, .int (nI i))]) zx zy dX9_gives_206 hl (k := 3) rfl (sb_m1 hl0) (by decide) rfl (fun ls hl => ?_)
                                  refine lv_goto (tgt := 141) zx zy dX9_gives_209 (by decide) ?_
                                  exact ih141 (l5 - 1) (upd p b ((p b) + 1)) (upd c b (-1)) (by first | assumption | omega) (by have := gvI_1 (wk := wk) (p := p) (c := c) hl0; rw [hbe] at this; exact this.symm.trans hG) _ _ _ (by omega) hH (lv_sub hl [1, 2, 3, 0] rfl)
                                · skip
                                  have hlt2 : i < wk := fx_lt_of c157 (by omega)
                                  have hb10 : b < 10 := by have := mcB_lt c i hi1; omega
                                  refine lv_aload_n zx zy dX9_gives_160 rfl (lv_at hl 0 rfl) ?_
                                  refine fx_get (C := RX9) (T := TX9) (N := 34) hC (fun _ h => List.mem_cons_of_mem _ (List.mem_append_right _ h)) hH 0 rfl rfl 29 (by decide) (by decide +kernel) rfl dX9_gives_161 ?_
                                  refine lv_iload zx zy dX9_gives_164 (lv_at hl 5 rfl) ?_
                                  refine fx_ild hC hH 3 rfl (vp_in_nI (by omega) (by omega)) dX9_gives_166 ?_
                                  refine lv_topi (fun v7 ev7 => ?_)
                                  obtain rfl : v7 = c i := ev7.trans (congrArg c (nI_clamp (by omega)))
                                  refine lv_aload_n zx zy dX9_gives_167 rfl (lv_at hl 0 rfl) ?_
                                  refine fx_get (C := RX9) (T := TX9) (N := 34) hC (fun _ h => List.mem_cons_of_mem _ (List.mem_append_right _ h)) hH 0 rfl rfl 29 (by decide) (by decide +kernel) rfl dX9_gives_168 ?_
                                  refine lv_iload zx zy dX9_gives_171 (lv_at hl 4 rfl) ?_
                                  refine fx_ild hC hH 3 rfl (vp_in_nI (by omega) (by omega)) dX9_gives_173 ?_
                                  refine lv_topi (fun v8 ev8 => ?_)
                                  obtain rfl : v8 = c b := ev8.trans (congrArg c (nI_clamp (by omega)))
                                  refine lv_icmp_le (tgt := 181) zx zy dX9_gives_174 (by decide) (fun c174 => ?_) (fun c174 => ?_)
                                  · skip
                                    refine lv_iinc (v := nI (i + 1)) (lv' := [(5, .int (nI (i + 1))), (0, .ref h), (1, .int tg), (2, .int (fouA RD (now - 1) wk)), (3, .int (nI l5)), (4, .int (nI b))]) zx zy dX9_gives_181 hl (k := 5) rfl (nI_1 _) (by decide) rfl (fun ls hl => ?_)
                                    refine lv_goto (tgt := 151) zx zy dX9_gives_184 (by decide) ?_
                                    exact ih151 (i + 1) b (by first | assumption | omega) (by first | assumption | omega) (by subst hb; first | exact (if_pos c174).symm | exact (if_neg c174).symm) _ _ _ (by omega) hH (lv_sub hl [1, 2, 3, 4, 5, 0] rfl)
                                  · skip
                                    refine lv_iload zx zy dX9_gives_177 (lv_at hl 5 rfl) ?_
                                    refine lv_istore (lv' := [(4, .int (nI i)), (0, .ref h), (1, .int tg), (2, .int (fouA RD (now - 1) wk)), (3, .int (nI l5)), (5, .int (nI i))]) zx zy dX9_gives_179 hl (by decide) rfl (fun ls hl => ?_)
                                    refine lv_iinc (v := nI (i + 1)) (lv' := [(5, .int (nI (i + 1))), (4, .int (nI i)), (0, .ref h), (1, .int tg), (2, .int (fouA RD (now - 1) wk)), (3, .int (nI l5))]) zx zy dX9_gives_181 hl (k := 5) rfl (nI_1 _) (by decide) rfl (fun ls hl => ?_)
                                    refine lv_goto (tgt := 151) zx zy dX9_gives_184 (by decide) ?_
                                    exact ih151 (i + 1) i (by first | assumption | omega) (by first | assumption | omega) (by subst hb; first | exact (if_pos c174).symm | exact (if_neg c174).symm) _ _ _ (by omega) hH (lv_sub hl [2, 3, 4, 5, 1, 0] rfl)
                            exact L151 _ 1 0 (Nat.le_refl 1) (hwk1) (mcB_1 c).symm _ _ _ (Nat.lt_succ_self _) hH (lv_sub hl [2, 3, 4, 5, 1, 0] rfl)
                      exact L141 _ lq (preF (preF GV (fun _ => 0) 10) (gvP RD (now - 1) wk tg) wk) (preF CU (gvC RD (now - 1) wk tg) wk) (by first | assumption | omega) (rfl) _ _ _ (Nat.lt_succ_self _) hH (lv_sub hl [0, 1, 2, 3] rfl)
                    · skip
                      have hlt : i < wk := fx_lt_of c76 (by omega)
                      refine lv_aload_n zx zy dX9_gives_79 rfl (lv_at hl 0 rfl) ?_
                      refine fx_get (C := RX9) (T := TX9) (N := 34) hC (fun _ h => List.mem_cons_of_mem _ (List.mem_append_right _ h)) hH 0 rfl rfl 28 (by decide) (by decide +kernel) rfl dX9_gives_80 ?_
                      refine lv_iload zx zy dX9_gives_83 (lv_at hl 4 rfl) ?_
                      refine lv_iload_n zx zy dX9_gives_85 rfl (lv_at hl 1 rfl) ?_
                      refine lv_aload_n zx zy dX9_gives_86 rfl (lv_at hl 0 rfl) ?_
                      refine lv_iload zx zy dX9_gives_87 (lv_at hl 4 rfl) ?_
                      refine lv_aload_n zx zy dX9_gives_89 rfl (lv_at hl 0 rfl) ?_
                      refine fx_get (C := RX9) (T := TX9) (N := 34) hC (fun _ h => List.mem_cons_of_mem _ (List.mem_append_right _ h)) hH 0 rfl rfl 0 (by decide) (by decide +kernel) rfl dX9_gives_90 ?_
                      refine lv_iconst (v := 1) zx zy dX9_gives_93 (by decide) ?_
                      refine lv_isub zx zy dX9_gives_94 ?_
                      refine lv_topi (fun v9 ev9 => ?_)
                      obtain rfl : v9 = nI (now - 1) := ev9.trans (fx_m1 (by omega))
                      refine fx_cVi (n := 2) (As := [.int (nI i), .int (nI (now - 1))]) (b := h) (rest := [.int tg, .int (nI i), .ref zgiven]) (fun (u : Unit) => [(h, .inr (9, [.int (nI now), .int (nI wk), .ref zcoins, .ref zdebt, .ref zfines, .ref zreading, .int (nI rk), .ref zruleYear, .ref zruleWhat, .ref zruleShare, .int (nI k), .ref zstate, .ref zholder, .ref zyearOf, .ref zusedIn, .ref zprojectOf, .ref zwent, .int ii, .int (nI bk), .ref zbidWorks, .ref zbidMany, .ref zbidPrice, .int ac, .int (nI pj), .ref zisFalse, .ref zcutMany, .ref ztonnes, .ref zcosts, .ref zgiven, .ref zcutOff, .ref zgot, .ref zcutsOf, .int sm, .int mg])), (zreading, .inl (cI, 800, .inl RD)), (zgiven, .inl (cI, 10, .inl (preF (preF GV (fun _ => 0) 10) (gvP RD (now - 1) wk tg) i))), (zcutOff, .inl (cI, 10, .inl (preF CU (gvC RD (now - 1) wk tg) i)))]) hC hA hH (k_X9_fouled_f l D cI cZ h zcoins zdebt zfines zreading zruleYear zruleWhat zruleShare zstate zholder zyearOf zusedIn zprojectOf zwent zbidWorks zbidMany zbidPrice zisFalse zcutMany ztonnes zcosts zgiven zcutOff zgot zcutsOf now wk rk k ii bk ac pj sm mg RD i (now - 1) (by first | assumption | omega) (by first | assumption | omega) (by first | assumption | omega) (by first | assumption | omega)) [0, 1] [2, 3] [2, 3, 0, 1] [(zgiven, .inl (cI, 10, .inl (preF (preF GV (fun _ => 0) 10) (gvP RD (now - 1) wk tg) i))), (zcutOff, .inl (cI, 10, .inl (preF CU (gvC RD (now - 1) wk tg) i)))] rfl rfl (by decide) (by decide) (fun _ => rfl) rfl gX9_gives_X9_fouled (by decide +kernel) ⟨Nat.le_of_ble_eq_true rfl, Nat.le_of_ble_eq_true rfl⟩ 0 rfl rfl rfl rfl rfl hl.1 (Nat.le_of_ble_eq_true rfl) ⟨Nat.le_of_ble_eq_true rfl, Nat.le_of_ble_eq_true rfl⟩ dX9_gives_95 (fun r10 u H locs hw95 hH => ?_)
                      obtain rfl : r10 = fouV RD i (now - 1) := hw95
                      have hH := (hH : fx_H zA zs.heap H locs D [(h, .inr (9, [.int (nI now), .int (nI wk), .ref zcoins, .ref zdebt, .ref zfines, .ref zreading, .int (nI rk), .ref zruleYear, .ref zruleWhat, .ref zruleShare, .int (nI k), .ref zstate, .ref zholder, .ref zyearOf, .ref zusedIn, .ref zprojectOf, .ref zwent, .int ii, .int (nI bk), .ref zbidWorks, .ref zbidMany, .ref zbidPrice, .int ac, .int (nI pj), .ref zisFalse, .ref zcutMany, .ref ztonnes, .ref zcosts, .ref zgiven, .ref zcutOff, .ref zgot, .ref zcutsOf, .int sm, .int mg])), (zreading, .inl (cI, 800, .inl RD)), (zgiven, .inl (cI, 10, .inl (preF (preF GV (fun _ => 0) 10) (gvP RD (now - 1) wk tg) i))), (zcutOff, .inl (cI, 10, .inl (preF CU (gvC RD (now - 1) wk tg) i)))])
                      refine lv_imul zx zy dX9_gives_98 ?_
                      refine lv_iload_n zx zy dX9_gives_99 rfl (lv_at hl 2 rfl) ?_
                      refine lv_idiv zx zy dX9_gives_100 hal3 ?_
                      refine fx_ist (ws2 := [(h, .inr (9, [.int (nI now), .int (nI wk), .ref zcoins, .ref zdebt, .ref zfines, .ref zreading, .int (nI rk), .ref zruleYear, .ref zruleWhat, .ref zruleShare, .int (nI k), .ref zstate, .ref zholder, .ref zyearOf, .ref zusedIn, .ref zprojectOf, .ref zwent, .int ii, .int (nI bk), .ref zbidWorks, .ref zbidMany, .ref zbidPrice, .int ac, .int (nI pj), .ref zisFalse, .ref zcutMany, .ref ztonnes, .ref zcosts, .ref zgiven, .ref zcutOff, .ref zgot, .ref zcutsOf, .int sm, .int mg])), (zreading, .inl (cI, 800, .inl RD)), (zgiven, .inl (cI, 10, .inl (upd (preF (preF GV (fun _ => 0) 10) (gvP RD (now - 1) wk tg) i) (nI i).toNatClampNeg ((tg * (fouV RD i (now - 1))) / (fouA RD (now - 1) wk))))), (zcutOff, .inl (cI, 10, .inl (preF CU (gvC RD (now - 1) wk tg) i)))]) hC hH 2 rfl (vp_in_nI (by omega) (by omega)) rfl dX9_gives_101 (fun H locs hH => ?_)
                      rw [show (upd (preF (preF GV (fun _ => 0) 10) (gvP RD (now - 1) wk tg) i) (nI i).toNatClampNeg ((tg * (fouV RD i (now - 1))) / (fouA RD (now - 1) wk)) : Nat → Int32) = upd (preF (preF GV (fun _ => 0) 10) (gvP RD (now - 1) wk tg) i) i ((tg * (fouV RD i (now - 1))) / (fouA RD (now - 1) wk)) from (by rw [nI_clamp (by omega)])] at hH
                      rw [show (upd (preF (preF GV (fun _ => 0) 10) (gvP RD (now - 1) wk tg) i) i ((tg * (fouV RD i (now - 1))) / (fouA RD (now - 1) wk)) : Nat → Int32) = preF (preF GV (fun _ => 0) 10) (gvP RD (now - 1) wk tg) (i + 1) from preF_upd (if_neg hal4).symm] at hH
                      refine lv_aload_n zx zy dX9_gives_102 rfl (lv_at hl 0 rfl) ?_
                      refine fx_get (C := RX9) (T := TX9) (N := 34) hC (fun _ h => List.mem_cons_of_mem _ (List.mem_append_right _ h)) hH 0 rfl rfl 29 (by decide) (by decide +kernel) rfl dX9_gives_103 ?_
                      refine lv_iload zx zy dX9_gives_106 (lv_at hl 4 rfl) ?_
                      refine lv_iload_n zx zy dX9_gives_108 rfl (lv_at hl 1 rfl) ?_
                      refine lv_aload_n zx zy dX9_gives_109 rfl (lv_at hl 0 rfl) ?_
                      refine lv_iload zx zy dX9_gives_110 (lv_at hl 4 rfl) ?_
                      refine lv_aload_n zx zy dX9_gives_112 rfl (lv_at hl 0 rfl) ?_
                      refine fx_get (C := RX9) (T := TX9) (N := 34) hC (fun _ h => List.mem_cons_of_mem _ (List.mem_append_right _ h)) hH 0 rfl rfl 0 (by decide) (by decide +kernel) rfl dX9_gives_113 ?_
                      refine lv_iconst (v := 1) zx zy dX9_gives_116 (by decide) ?_
                      refine lv_isub zx zy dX9_gives_117 ?_
                      refine lv_topi (fun v11 ev11 => ?_)
                      obtain rfl : v11 = nI (now - 1) := ev11.trans (fx_m1 (by omega))
                      refine fx_cVi (n := 2) (As := [.int (nI i), .int (nI (now - 1))]) (b := h) (rest := [.int tg, .int (nI i), .ref zcutOff]) (fun (u : Unit) => [(h, .inr (9, [.int (nI now), .int (nI wk), .ref zcoins, .ref zdebt, .ref zfines, .ref zreading, .int (nI rk), .ref zruleYear, .ref zruleWhat, .ref zruleShare, .int (nI k), .ref zstate, .ref zholder, .ref zyearOf, .ref zusedIn, .ref zprojectOf, .ref zwent, .int ii, .int (nI bk), .ref zbidWorks, .ref zbidMany, .ref zbidPrice, .int ac, .int (nI pj), .ref zisFalse, .ref zcutMany, .ref ztonnes, .ref zcosts, .ref zgiven, .ref zcutOff, .ref zgot, .ref zcutsOf, .int sm, .int mg])), (zreading, .inl (cI, 800, .inl RD)), (zgiven, .inl (cI, 10, .inl (preF (preF GV (fun _ => 0) 10) (gvP RD (now - 1) wk tg) (i + 1)))), (zcutOff, .inl (cI, 10, .inl (preF CU (gvC RD (now - 1) wk tg) i)))]) hC hA hH (k_X9_fouled_f l D cI cZ h zcoins zdebt zfines zreading zruleYear zruleWhat zruleShare zstate zholder zyearOf zusedIn zprojectOf zwent zbidWorks zbidMany zbidPrice zisFalse zcutMany ztonnes zcosts zgiven zcutOff zgot zcutsOf now wk rk k ii bk ac pj sm mg RD i (now - 1) (by first | assumption | omega) (by first | assumption | omega) (by first | assumption | omega) (by first | assumption | omega)) [0, 1] [2, 3] [2, 3, 0, 1] [(zgiven, .inl (cI, 10, .inl (preF (preF GV (fun _ => 0) 10) (gvP RD (now - 1) wk tg) (i + 1)))), (zcutOff, .inl (cI, 10, .inl (preF CU (gvC RD (now - 1) wk tg) i)))] rfl rfl (by decide) (by decide) (fun _ => rfl) rfl gX9_gives_X9_fouled (by decide +kernel) ⟨Nat.le_of_ble_eq_true rfl, Nat.le_of_ble_eq_true rfl⟩ 0 rfl rfl rfl rfl rfl hl.1 (Nat.le_of_ble_eq_true rfl) ⟨Nat.le_of_ble_eq_true rfl, Nat.le_of_ble_eq_true rfl⟩ dX9_gives_118 (fun r12 u H locs hw118 hH => ?_)
                      obtain rfl : r12 = fouV RD i (now - 1) := hw118
                      have hH := (hH : fx_H zA zs.heap H locs D [(h, .inr (9, [.int (nI now), .int (nI wk), .ref zcoins, .ref zdebt, .ref zfines, .ref zreading, .int (nI rk), .ref zruleYear, .ref zruleWhat, .ref zruleShare, .int (nI k), .ref zstate, .ref zholder, .ref zyearOf, .ref zusedIn, .ref zprojectOf, .ref zwent, .int ii, .int (nI bk), .ref zbidWorks, .ref zbidMany, .ref zbidPrice, .int ac, .int (nI pj), .ref zisFalse, .ref zcutMany, .ref ztonnes, .ref zcosts, .ref zgiven, .ref zcutOff, .ref zgot, .ref zcutsOf, .int sm, .int mg])), (zreading, .inl (cI, 800, .inl RD)), (zgiven, .inl (cI, 10, .inl (preF (preF GV (fun _ => 0) 10) (gvP RD (now - 1) wk tg) (i + 1)))), (zcutOff, .inl (cI, 10, .inl (preF CU (gvC RD (now - 1) wk tg) i)))])
                      refine lv_imul zx zy dX9_gives_121 ?_
                      refine lv_iload_n zx zy dX9_gives_122 rfl (lv_at hl 2 rfl) ?_
                      refine lv_irem zx zy dX9_gives_123 hal3 ?_
                      refine fx_ist (ws2 := [(h, .inr (9, [.int (nI now), .int (nI wk), .ref zcoins, .ref zdebt, .ref zfines, .ref zreading, .int (nI rk), .ref zruleYear, .ref zruleWhat, .ref zruleShare, .int (nI k), .ref zstate, .ref zholder, .ref zyearOf, .ref zusedIn, .ref zprojectOf, .ref zwent, .int ii, .int (nI bk), .ref zbidWorks, .ref zbidMany, .ref zbidPrice, .int ac, .int (nI pj), .ref zisFalse, .ref zcutMany, .ref ztonnes, .ref zcosts, .ref zgiven, .ref zcutOff, .ref zgot, .ref zcutsOf, .int sm, .int mg])), (zreading, .inl (cI, 800, .inl RD)), (zgiven, .inl (cI, 10, .inl (preF (preF GV (fun _ => 0) 10) (gvP RD (now - 1) wk tg) (i + 1)))), (zcutOff, .inl (cI, 10, .inl (upd (preF CU (gvC RD (now - 1) wk tg) i) (nI i).toNatClampNeg ((tg * (fouV RD i (now - 1))) - (tg * (fouV RD i (now - 1))) / (fouA RD (now - 1) wk) * (fouA RD (now - 1) wk)))))]) hC hH 3 rfl (vp_in_nI (by omega) (by omega)) rfl dX9_gives_124 (fun H locs hH => ?_)
                      rw [show (upd (preF CU (gvC RD (now - 1) wk tg) i) (nI i).toNatClampNeg ((tg * (fouV RD i (now - 1))) - (tg * (fouV RD i (now - 1))) / (fouA RD (now - 1) wk) * (fouA RD (now - 1) wk)) : Nat → Int32) = upd (preF CU (gvC RD (now - 1) wk tg) i) i ((tg * (fouV RD i (now - 1))) - (tg * (fouV RD i (now - 1))) / (fouA RD (now - 1) wk) * (fouA RD (now - 1) wk)) from (by rw [nI_clamp (by omega)])] at hH
                      rw [show (upd (preF CU (gvC RD (now - 1) wk tg) i) i ((tg * (fouV RD i (now - 1))) - (tg * (fouV RD i (now - 1))) / (fouA RD (now - 1) wk) * (fouA RD (now - 1) wk)) : Nat → Int32) = preF CU (gvC RD (now - 1) wk tg) (i + 1) from preF_upd (if_neg hal4).symm] at hH
                      refine lv_iload_n zx zy dX9_gives_125 rfl (lv_at hl 3 rfl) ?_
                      refine lv_aload_n zx zy dX9_gives_126 rfl (lv_at hl 0 rfl) ?_
                      refine fx_get (C := RX9) (T := TX9) (N := 34) hC (fun _ h => List.mem_cons_of_mem _ (List.mem_append_right _ h)) hH 0 rfl rfl 28 (by decide) (by decide +kernel) rfl dX9_gives_127 ?_
                      refine lv_iload zx zy dX9_gives_130 (lv_at hl 4 rfl) ?_
                      refine fx_ild hC hH 2 rfl (vp_in_nI (by omega) (by omega)) dX9_gives_132 ?_
                      refine lv_topi (fun v13 ev13 => ?_)
                      obtain rfl : v13 = gvP RD (now - 1) wk tg i := ev13.trans ((congrArg _ (nI_clamp (by omega))).trans (preF_in (by omega)))
                      refine lv_isub zx zy dX9_gives_133 ?_
                      refine lv_istore_n (lv' := [(3, .int (lf - (gvP RD (now - 1) wk tg i))), (0, .ref h), (1, .int tg), (2, .int (fouA RD (now - 1) wk)), (4, .int (nI i))]) zx zy dX9_gives_134 rfl hl (by decide) rfl (fun ls hl => ?_)
                      refine lv_iinc (v := nI (i + 1)) (lv' := [(4, .int (nI (i + 1))), (3, .int (lf - (gvP RD (now - 1) wk tg i))), (0, .ref h), (1, .int tg), (2, .int (fouA RD (now - 1) wk))]) zx zy dX9_gives_135 hl (k := 4) rfl (nI_1 _) (by decide) rfl (fun ls hl => ?_)
                      refine lv_goto (tgt := 70) zx zy dX9_gives_138 (by decide) ?_
                      exact ih70 (i + 1) (lf - (gvP RD (now - 1) wk tg i)) (by first | assumption | omega) (by subst hlf; rfl) _ _ _ (by omega) hH (lv_sub hl [2, 3, 4, 1, 0] rfl)
                exact L70 _ 0 tg (by first | assumption | omega) (rfl) _ _ _ (Nat.lt_succ_self _) (by rw [preF_0, preF_0]; exact hH) (lv_sub hl [2, 3, 4, 1, 0] rfl)
              · skip
                exact fx_vret hQ hC hr hlk hH dX9_gives_64 (Nat.le_of_ble_eq_true rfl) (Nat.le_of_ble_eq_true rfl) ((preF GV (fun _ => 0) 10, CU)) rfl (Or.inl ⟨by first | exact Or.inl hnz | exact (Classical.em (now = 0)).elim Or.inl (fun e => Or.inr (by rw [← hjw, ← hal]; exact c61)), fun j hj => preF_in (f := GV) (g := fun _ => 0) hj⟩)
            · skip
              have hlt : j < wk := fx_lt_of c30 (by omega)
              refine lv_aload_n zx zy dX9_gives_33 rfl (lv_at hl 0 rfl) ?_
              refine fx_get (C := RX9) (T := TX9) (N := 34) hC (fun _ h => List.mem_cons_of_mem _ (List.mem_append_right _ h)) hH 0 rfl rfl 0 (by decide) (by decide +kernel) rfl dX9_gives_34 ?_
              refine lv_if_le (tgt := 60) zx zy dX9_gives_37 (by decide) (fun c37 => ?_) (fun c37 => ?_)
              · skip
                have hnz : now = 0 := fx_zero_of c37 (by omega)
                refine lv_iload_n zx zy dX9_gives_60 rfl (lv_at hl 2 rfl) ?_
                refine lv_if_ne (tgt := 65) zx zy dX9_gives_61 (by decide) (fun c61 => ?_) (fun c61 => ?_)
                · skip
                  have hnz2 : ¬ now = 0 := fun e => c61 (by rw [hal, hn0 e]; rfl)
                  have hjw2 : j = wk := by first | exact hjw | exact absurd hnz hnz2
                  have hal2 : al = fouA RD (now - 1) wk := by rw [hal, hjw2]
                  have hal3 : ¬ fouA RD (now - 1) wk = 0 := fun e => c61 (hal2.trans e)
                  have hal4 := hall.resolve_left hal3
                  have hwk1 : 1 ≤ wk := Nat.pos_of_ne_zero (fun e => hal3 (by rw [e]; rfl))
                  have hl := (hal2 ▸ hl : lv_has ls 6 [(0, .ref h), (1, .int tg), (2, .int (fouA RD (now - 1) wk)), (3, .int (nI j))])
                  refine lv_iload_n zx zy dX9_gives_65 rfl (lv_at hl 1 rfl) ?_
                  refine lv_istore_n (lv' := [(3, .int tg), (0, .ref h), (1, .int tg), (2, .int (fouA RD (now - 1) wk))]) zx zy dX9_gives_66 rfl hl (by decide) rfl (fun ls hl => ?_)
                  refine lv_iconst (v := 0) zx zy dX9_gives_67 (by decide) ?_
                  refine lv_topi (fun v14 ev14 => ?_)
                  obtain rfl : v14 = nI 0 := ev14.trans (rfl)
                  refine lv_istore (lv' := [(4, .int (nI 0)), (3, .int tg), (0, .ref h), (1, .int tg), (2, .int (fouA RD (now - 1) wk))]) zx zy dX9_gives_68 hl (by decide) rfl (fun ls hl => ?_)
                  have L70 : ∀ (fu : Nat) (i : Nat) (lf : Int32) (hi : i ≤ wk) (hlf : lf = lfI tg (gvP RD (now - 1) wk tg) i) (H : Heap) (locs : List Loc) (ls : Array Slot), wk - i < fu → fx_H zA zs.heap H locs D [(h, .inr (9, [.int (nI now), .int (nI wk), .ref zcoins, .ref zdebt, .ref zfines, .ref zreading, .int (nI rk), .ref zruleYear, .ref zruleWhat, .ref zruleShare, .int (nI k), .ref zstate, .ref zholder, .ref zyearOf, .ref zusedIn, .ref zprojectOf, .ref zwent, .int ii, .int (nI bk), .ref zbidWorks, .ref zbidMany, .ref zbidPrice, .int ac, .int (nI pj), .ref zisFalse, .ref zcutMany, .ref ztonnes, .ref zcosts, .ref zgiven, .ref zcutOff, .ref zgot, .ref zcutsOf, .int sm, .int mg])), (zreading, .inl (cI, 800, .inl RD)), (zgiven, .inl (cI, 10, .inl (preF (preF GV (fun _ => 0) 10) (gvP RD (now - 1) wk tg) i))), (zcutOff, .inl (cI, 10, .inl (preF CU (gvC RD (now - 1) wk tg) i)))] → lv_has ls 6 [(0, .ref h), (1, .int tg), (2, .int (fouA RD (now - 1) wk)), (3, .int lf), (4, .int (nI i))] → W zp l ze ({ frames := 3, cells := 0, slots := 0, locals := 70 }) zs zm za zb zt zc H locs (0) (0) zQ (F0 zm 70 ls []) := by
                    intro fu
                    induction fu with
                    | zero => intro i lf hi hlf H locs ls hfu; exact absurd hfu (Nat.not_lt_zero _)
                    | succ fu ih70 =>
                      intro i lf hi hlf H locs ls hfu70 hH hl
                      refine lv_iload zx zy dX9_gives_70 (lv_at hl 4 rfl) ?_
                      refine lv_aload_n zx zy dX9_gives_72 rfl (lv_at hl 0 rfl) ?_
                      refine fx_get (C := RX9) (T := TX9) (N := 34) hC (fun _ h => List.mem_cons_of_mem _ (List.mem_append_right _ h)) hH 0 rfl rfl 1 (by decide) (by decide +kernel) rfl dX9_gives_73 ?_
                      refine lv_icmp_ge (tgt := 141) zx zy dX9_gives_76 (by decide) (fun c76 => ?_) (fun c76 => ?_)
                      · skip
                        have hiw : i = wk := Nat.le_antisymm hi (fx_le_of c76 (by omega) (by omega))
                        rw [hiw] at hH
                        have hlf2 : lf = nI lq := by rw [hlf, hiw]; exact hlq hnz2 hal3
                        have hl := (hlf2 ▸ hl : lv_has ls 6 [(0, .ref h), (1, .int tg), (2, .int (fouA RD (now - 1) wk)), (3, .int (nI lq)), (4, .int (nI i))])
                        have L141 : ∀ (fu : Nat) (l5 : Nat) (p : Nat → Int32) (c : Nat → Int32) (hl5 : l5 ≤ lq) (hG : gvI wk l5 p c = gvI wk lq (preF (preF GV (fun _ => 0) 10) (gvP RD (now - 1) wk tg) wk) (preF CU (gvC RD (now - 1) wk tg) wk)) (H : Heap) (locs : List Loc) (ls : Array Slot), l5 < fu → fx_H zA zs.heap H locs D [(h, .inr (9, [.int (nI now), .int (nI wk), .ref zcoins, .ref zdebt, .ref zfines, .ref zreading, .int (nI rk), .ref zruleYear, .ref zruleWhat, .ref zruleShare, .int (nI k), .ref zstate, .ref zholder, .ref zyearOf, .ref zusedIn, .ref zprojectOf, .ref zwent, .int ii, .int (nI bk), .ref zbidWorks, .ref zbidMany, .ref zbidPrice, .int ac, .int (nI pj), .ref zisFalse, .ref zcutMany, .ref ztonnes, .ref zcosts, .ref zgiven, .ref zcutOff, .ref zgot, .ref zcutsOf, .int sm, .int mg])), (zreading, .inl (cI, 800, .inl RD)), (zgiven, .inl (cI, 10, .inl p)), (zcutOff, .inl (cI, 10, .inl c))] → lv_has ls 6 [(0, .ref h), (1, .int tg), (2, .int (fouA RD (now - 1) wk)), (3, .int (nI l5))] → W zp l ze ({ frames := 3, cells := 0, slots := 0, locals := 70 }) zs zm za zb zt zc H locs (0) (0) zQ (F0 zm 141 ls []) := by
                          intro fu
                          induction fu with
                          | zero => intro l5 p c hl5 hG H locs ls hfu; exact absurd hfu (Nat.not_lt_zero _)
                          | succ fu ih141 =>
                            intro l5 p c hl5 hG H locs ls hfu141 hH hl
                            refine lv_iload_n zx zy dX9_gives_141 rfl (lv_at hl 3 rfl) ?_
                            refine lv_if_le (tgt := 212) zx zy dX9_gives_142 (by decide) (fun c142 => ?_) (fun c142 => ?_)
                            · skip
                              have hl00 : l5 = 0 := fx_zero_of c142 (by omega)
                              exact fx_vret hQ hC hr hlk hH dX9_gives_212 (Nat.le_of_ble_eq_true rfl) (Nat.le_of_ble_eq_true rfl) ((p, c)) rfl (Or.inr ⟨⟨hnz2, hal3⟩, _, fun j hj => preF_in (f := GV) (g := fun _ => 0) hj, by rw [← hG, hl00]; rfl⟩)
                            · skip
                              have hl0 : 0 < l5 := fx_pos_of c142 (by omega)
                              refine lv_iconst (v := 0) zx zy dX9_gives_145 (by decide) ?_
                              refine lv_topi (fun v15 ev15 => ?_)
                              obtain rfl : v15 = nI 0 := ev15.trans (rfl)
                              refine lv_istore (lv' := [(4, .int (nI 0)), (0, .ref h), (1, .int tg), (2, .int (fouA RD (now - 1) wk)), (3, .int (nI l5))]) zx zy dX9_gives_146 hl (by decide) rfl (fun ls hl => ?_)
                              refine lv_iconst (v := 1) zx zy dX9_gives_148 (by decide) ?_
                              refine lv_topi (fun v16 ev16 => ?_)
                              obtain rfl : v16 = nI 1 := ev16.trans (rfl)
                              refine lv_istore (lv' := [(5, .int (nI 1)), (4, .int (nI 0)), (0, .ref h), (1, .int tg), (2, .int (fouA RD (now - 1) wk)), (3, .int (nI l5))]) zx zy dX9_gives_149 hl (by decide) rfl (fun ls hl => ?_)
                              have L151 : ∀ (fu : Nat) (i : Nat) (b : Nat) (hi1 : 1 ≤ i) (hi : i ≤ wk) (hb : b = mcB c i) (H : Heap) (locs : List Loc) (ls : Array Slot), wk - i < fu → fx_H zA zs.heap H locs D [(h, .inr (9, [.int (nI now), .int (nI wk), .ref zcoins, .ref zdebt, .ref zfines, .ref zreading, .int (nI rk), .ref zruleYear, .ref zruleWhat, .ref zruleShare, .int (nI k), .ref zstate, .ref zholder, .ref zyearOf, .ref zusedIn, .ref zprojectOf, .ref zwent, .int ii, .int (nI bk), .ref zbidWorks, .ref zbidMany, .ref zbidPrice, .int ac, .int (nI pj), .ref zisFalse, .ref zcutMany, .ref ztonnes, .ref zcosts, .ref zgiven, .ref zcutOff, .ref zgot, .ref zcutsOf, .int sm, .int mg])), (zreading, .inl (cI, 800, .inl RD)), (zgiven, .inl (cI, 10, .inl p)), (zcutOff, .inl (cI, 10, .inl c))] → lv_has ls 6 [(0, .ref h), (1, .int tg), (2, .int (fouA RD (now - 1) wk)), (3, .int (nI l5)), (4, .int (nI b)), (5, .int (nI i))] → W zp l ze ({ frames := 3, cells := 0, slots := 0, locals := 70 }) zs zm za zb zt zc H locs (0) (0) zQ (F0 zm 151 ls []) := by
                                intro fu
                                induction fu with
                                | zero => intro i b hi1 hi hb H locs ls hfu; exact absurd hfu (Nat.not_lt_zero _)
                                | succ fu ih151 =>
                                  intro i b hi1 hi hb H locs ls hfu151 hH hl
                                  refine lv_iload zx zy dX9_gives_151 (lv_at hl 5 rfl) ?_
                                  refine lv_aload_n zx zy dX9_gives_153 rfl (lv_at hl 0 rfl) ?_
                                  refine fx_get (C := RX9) (T := TX9) (N := 34) hC (fun _ h => List.mem_cons_of_mem _ (List.mem_append_right _ h)) hH 0 rfl rfl 1 (by decide) (by decide +kernel) rfl dX9_gives_154 ?_
                                  refine lv_icmp_ge (tgt := 187) zx zy dX9_gives_157 (by decide) (fun c157 => ?_) (fun c157 => ?_)
                                  · skip
                                    have hbe : mcB c wk = b := by rw [hb, Nat.le_antisymm hi (fx_le_of c157 (by omega) (by omega))]
                                    have hb10 : b < 10 := by have := mcB_lt c wk hwk1; omega
                                    refine lv_aload_n zx zy dX9_gives_187 rfl (lv_at hl 0 rfl) ?_
                                    refine fx_get (C := RX9) (T := TX9) (N := 34) hC (fun _ h => List.mem_cons_of_mem _ (List.mem_append_right _ h)) hH 0 rfl rfl 28 (by decide) (by decide +kernel) rfl dX9_gives_188 ?_
                                    refine lv_iload zx zy dX9_gives_191 (lv_at hl 4 rfl) ?_
                                    refine lv_dup2_11 zx zy dX9_gives_193 rfl rfl ?_
                                    refine fx_ild hC hH 2 rfl (vp_in_nI (by omega) (by omega)) dX9_gives_194 ?_
                                    refine lv_topi (fun v17 ev17 => ?_)
                                    obtain rfl : v17 = p b := ev17.trans (congrArg p (nI_clamp (by omega)))
                                    refine lv_iconst (v := 1) zx zy dX9_gives_195 (by decide) ?_
                                    refine lv_iadd zx zy dX9_gives_196 ?_
                                    refine fx_ist (ws2 := [(h, .inr (9, [.int (nI now), .int (nI wk), .ref zcoins, .ref zdebt, .ref zfines, .ref zreading, .int (nI rk), .ref zruleYear, .ref zruleWhat, .ref zruleShare, .int (nI k), .ref zstate, .ref zholder, .ref zyearOf, .ref zusedIn, .ref zprojectOf, .ref zwent, .int ii, .int (nI bk), .ref zbidWorks, .ref zbidMany, .ref zbidPrice, .int ac, .int (nI pj), .ref zisFalse, .ref zcutMany, .ref ztonnes, .ref zcosts, .ref zgiven, .ref zcutOff, .ref zgot, .ref zcutsOf, .int sm, .int mg])), (zreading, .inl (cI, 800, .inl RD)), (zgiven, .inl (cI, 10, .inl (upd p (nI b).toNatClampNeg ((p b) + 1)))), (zcutOff, .inl (cI, 10, .inl c))]) hC hH 2 rfl (vp_in_nI (by omega) (by omega)) rfl dX9_gives_197 (fun H locs hH => ?_)
                                    rw [show (upd p (nI b).toNatClampNeg ((p b) + 1) : Nat → Int32) = upd p b ((p b) + 1) from (by rw [nI_clamp (by omega)])] at hH
                                    refine lv_aload_n zx zy dX9_gives_198 rfl (lv_at hl 0 rfl) ?_
                                    refine fx_get (C := RX9) (T := TX9) (N := 34) hC (fun _ h => List.mem_cons_of_mem _ (List.mem_append_right _ h)) hH 0 rfl rfl 29 (by decide) (by decide +kernel) rfl dX9_gives_199 ?_
                                    refine lv_iload zx zy dX9_gives_202 (lv_at hl 4 rfl) ?_
                                    refine lv_iconst (v := (-1)) zx zy dX9_gives_204 (by decide) ?_
                                    refine fx_ist (ws2 := [(h, .inr (9, [.int (nI now), .int (nI wk), .ref zcoins, .ref zdebt, .ref zfines, .ref zreading, .int (nI rk), .ref zruleYear, .ref zruleWhat, .ref zruleShare, .int (nI k), .ref zstate, .ref zholder, .ref zyearOf, .ref zusedIn, .ref zprojectOf, .ref zwent, .int ii, .int (nI bk), .ref zbidWorks, .ref zbidMany, .ref zbidPrice, .int ac, .int (nI pj), .ref zisFalse, .ref zcutMany, .ref ztonnes, .ref zcosts, .ref zgiven, .ref zcutOff, .ref zgot, .ref zcutsOf, .int sm, .int mg])), (zreading, .inl (cI, 800, .inl RD)), (zgiven, .inl (cI, 10, .inl (upd p b ((p b) + 1)))), (zcutOff, .inl (cI, 10, .inl (upd c (nI b).toNatClampNeg (-1))))]) hC hH 3 rfl (vp_in_nI (by omega) (by omega)) rfl dX9_gives_205 (fun H locs hH => ?_)
                                    rw [show (upd c (nI b).toNatClampNeg (-1) : Nat → Int32) = upd c b (-1) from (by rw [nI_clamp (by omega)])] at hH
                                    refine lv_iinc (v := nI (l5 - 1)) (lv' := [(3, .int (nI (l5 - 1))), (0, .ref h), (1, .int tg), (2, .int (fouA RD (now - 1) wk)), (4, .int (nI b)), (5, .int (nI i))]) zx zy dX9_gives_206 hl (k := 3) rfl (sb_m1 hl0) (by decide) rfl (fun ls hl => ?_)
                                    refine lv_goto (tgt := 141) zx zy dX9_gives_209 (by decide) ?_
                                    exact ih141 (l5 - 1) (upd p b ((p b) + 1)) (upd c b (-1)) (by first | assumption | omega) (by have := gvI_1 (wk := wk) (p := p) (c := c) hl0; rw [hbe] at this; exact this.symm.trans hG) _ _ _ (by omega) hH (lv_sub hl [1, 2, 3, 0] rfl)
                                  · skip
                                    have hlt2 : i < wk := fx_lt_of c157 (by omega)
                                    have hb10 : b < 10 := by have := mcB_lt c i hi1; omega
                                    refine lv_aload_n zx zy dX9_gives_160 rfl (lv_at hl 0 rfl) ?_
                                    refine fx_get (C := RX9) (T := TX9) (N := 34) hC (fun _ h => List.mem_cons_of_mem _ (List.mem_append_right _ h)) hH 0 rfl rfl 29 (by decide) (by decide +kernel) rfl dX9_gives_161 ?_
                                    refine lv_iload zx zy dX9_gives_164 (lv_at hl 5 rfl) ?_
                                    refine fx_ild hC hH 3 rfl (vp_in_nI (by omega) (by omega)) dX9_gives_166 ?_
                                    refine lv_topi (fun v18 ev18 => ?_)
                                    obtain rfl : v18 = c i := ev18.trans (congrArg c (nI_clamp (by omega)))
                                    refine lv_aload_n zx zy dX9_gives_167 rfl (lv_at hl 0 rfl) ?_
                                    refine fx_get (C := RX9) (T := TX9) (N := 34) hC (fun _ h => List.mem_cons_of_mem _ (List.mem_append_right _ h)) hH 0 rfl rfl 29 (by decide) (by decide +kernel) rfl dX9_gives_168 ?_
                                    refine lv_iload zx zy dX9_gives_171 (lv_at hl 4 rfl) ?_
                                    refine fx_ild hC hH 3 rfl (vp_in_nI (by omega) (by omega)) dX9_gives_173 ?_
                                    refine lv_topi (fun v19 ev19 => ?_)
                                    obtain rfl : v19 = c b := ev19.trans (congrArg c (nI_clamp (by omega)))
                                    refine lv_icmp_le (tgt := 181) zx zy dX9_gives_174 (by decide) (fun c174 => ?_) (fun c174 => ?_)
                                    · skip
                                      refine lv_iinc (v := nI (i + 1)) (lv' := [(5, .int (nI (i + 1))), (0, .ref h), (1, .int tg), (2, .int (fouA RD (now - 1) wk)), (3, .int (nI l5)), (4, .int (nI b))]) zx zy dX9_gives_181 hl (k := 5) rfl (nI_1 _) (by decide) rfl (fun ls hl => ?_)
                                      refine lv_goto (tgt := 151) zx zy dX9_gives_184 (by decide) ?_
                                      exact ih151 (i + 1) b (by first | assumption | omega) (by first | assumption | omega) (by subst hb; first | exact (if_pos c174).symm | exact (if_neg c174).symm) _ _ _ (by omega) hH (lv_sub hl [1, 2, 3, 4, 5, 0] rfl)
                                    · skip
                                      refine lv_iload zx zy dX9_gives_177 (lv_at hl 5 rfl) ?_
                                      refine lv_istore (lv' := [(4, .int (nI i)), (0, .ref h), (1, .int tg), (2, .int (fouA RD (now - 1) wk)), (3, .int (nI l5)), (5, .int (nI i))]) zx zy dX9_gives_179 hl (by decide) rfl (fun ls hl => ?_)
                                      refine lv_iinc (v := nI (i + 1)) (lv' := [(5, .int (nI (i + 1))), (4, .int (nI i)), (0, .ref h), (1, .int tg), (2, .int (fouA RD (now - 1) wk)), (3, .int (nI l5))]) zx zy dX9_gives_181 hl (k := 5) rfl (nI_1 _) (by decide) rfl (fun ls hl => ?_)
                                      refine lv_goto (tgt := 151) zx zy dX9_gives_184 (by decide) ?_
                                      exact ih151 (i + 1) i (by first | assumption | omega) (by first | assumption | omega) (by subst hb; first | exact (if_pos c174).symm | exact (if_neg c174).symm) _ _ _ (by omega) hH (lv_sub hl [2, 3, 4, 5, 1, 0] rfl)
                              exact L151 _ 1 0 (Nat.le_refl 1) (hwk1) (mcB_1 c).symm _ _ _ (Nat.lt_succ_self _) hH (lv_sub hl [2, 3, 4, 5, 1, 0] rfl)
                        exact L141 _ lq (preF (preF GV (fun _ => 0) 10) (gvP RD (now - 1) wk tg) wk) (preF CU (gvC RD (now - 1) wk tg) wk) (by first | assumption | omega) (rfl) _ _ _ (Nat.lt_succ_self _) hH (lv_sub hl [0, 1, 2, 3] rfl)
                      · skip
                        have hlt : i < wk := fx_lt_of c76 (by omega)
                        refine lv_aload_n zx zy dX9_gives_79 rfl (lv_at hl 0 rfl) ?_
                        refine fx_get (C := RX9) (T := TX9) (N := 34) hC (fun _ h => List.mem_cons_of_mem _ (List.mem_append_right _ h)) hH 0 rfl rfl 28 (by decide) (by decide +kernel) rfl dX9_gives_80 ?_
                        refine lv_iload zx zy dX9_gives_83 (lv_at hl 4 rfl) ?_
                        refine lv_iload_n zx zy dX9_gives_85 rfl (lv_at hl 1 rfl) ?_
                        refine lv_aload_n zx zy dX9_gives_86 rfl (lv_at hl 0 rfl) ?_
                        refine lv_iload zx zy dX9_gives_87 (lv_at hl 4 rfl) ?_
                        refine lv_aload_n zx zy dX9_gives_89 rfl (lv_at hl 0 rfl) ?_
                        refine fx_get (C := RX9) (T := TX9) (N := 34) hC (fun _ h => List.mem_cons_of_mem _ (List.mem_append_right _ h)) hH 0 rfl rfl 0 (by decide) (by decide +kernel) rfl dX9_gives_90 ?_
                        refine lv_iconst (v := 1) zx zy dX9_gives_93 (by decide) ?_
                        refine lv_isub zx zy dX9_gives_94 ?_
                        refine lv_topi (fun v20 ev20 => ?_)
                        obtain rfl : v20 = nI (now - 1) := ev20.trans (fx_m1 (by omega))
                        refine fx_cVi (n := 2) (As := [.int (nI i), .int (nI (now - 1))]) (b := h) (rest := [.int tg, .int (nI i), .ref zgiven]) (fun (u : Unit) => [(h, .inr (9, [.int (nI now), .int (nI wk), .ref zcoins, .ref zdebt, .ref zfines, .ref zreading, .int (nI rk), .ref zruleYear, .ref zruleWhat, .ref zruleShare, .int (nI k), .ref zstate, .ref zholder, .ref zyearOf, .ref zusedIn, .ref zprojectOf, .ref zwent, .int ii, .int (nI bk), .ref zbidWorks, .ref zbidMany, .ref zbidPrice, .int ac, .int (nI pj), .ref zisFalse, .ref zcutMany, .ref ztonnes, .ref zcosts, .ref zgiven, .ref zcutOff, .ref zgot, .ref zcutsOf, .int sm, .int mg])), (zreading, .inl (cI, 800, .inl RD)), (zgiven, .inl (cI, 10, .inl (preF (preF GV (fun _ => 0) 10) (gvP RD (now - 1) wk tg) i))), (zcutOff, .inl (cI, 10, .inl (preF CU (gvC RD (now - 1) wk tg) i)))]) hC hA hH (k_X9_fouled_f l D cI cZ h zcoins zdebt zfines zreading zruleYear zruleWhat zruleShare zstate zholder zyearOf zusedIn zprojectOf zwent zbidWorks zbidMany zbidPrice zisFalse zcutMany ztonnes zcosts zgiven zcutOff zgot zcutsOf now wk rk k ii bk ac pj sm mg RD i (now - 1) (by first | assumption | omega) (by first | assumption | omega) (by first | assumption | omega) (by first | assumption | omega)) [0, 1] [2, 3] [2, 3, 0, 1] [(zgiven, .inl (cI, 10, .inl (preF (preF GV (fun _ => 0) 10) (gvP RD (now - 1) wk tg) i))), (zcutOff, .inl (cI, 10, .inl (preF CU (gvC RD (now - 1) wk tg) i)))] rfl rfl (by decide) (by decide) (fun _ => rfl) rfl gX9_gives_X9_fouled (by decide +kernel) ⟨Nat.le_of_ble_eq_true rfl, Nat.le_of_ble_eq_true rfl⟩ 0 rfl rfl rfl rfl rfl hl.1 (Nat.le_of_ble_eq_true rfl) ⟨Nat.le_of_ble_eq_true rfl, Nat.le_of_ble_eq_true rfl⟩ dX9_gives_95 (fun r21 u H locs hw95 hH => ?_)
                        obtain rfl : r21 = fouV RD i (now - 1) := hw95
                        have hH := (hH : fx_H zA zs.heap H locs D [(h, .inr (9, [.int (nI now), .int (nI wk), .ref zcoins, .ref zdebt, .ref zfines, .ref zreading, .int (nI rk), .ref zruleYear, .ref zruleWhat, .ref zruleShare, .int (nI k), .ref zstate, .ref zholder, .ref zyearOf, .ref zusedIn, .ref zprojectOf, .ref zwent, .int ii, .int (nI bk), .ref zbidWorks, .ref zbidMany, .ref zbidPrice, .int ac, .int (nI pj), .ref zisFalse, .ref zcutMany, .ref ztonnes, .ref zcosts, .ref zgiven, .ref zcutOff, .ref zgot, .ref zcutsOf, .int sm, .int mg])), (zreading, .inl (cI, 800, .inl RD)), (zgiven, .inl (cI, 10, .inl (preF (preF GV (fun _ => 0) 10) (gvP RD (now - 1) wk tg) i))), (zcutOff, .inl (cI, 10, .inl (preF CU (gvC RD (now - 1) wk tg) i)))])
                        refine lv_imul zx zy dX9_gives_98 ?_
                        refine lv_iload_n zx zy dX9_gives_99 rfl (lv_at hl 2 rfl) ?_
                        refine lv_idiv zx zy dX9_gives_100 hal3 ?_
                        refine fx_ist (ws2 := [(h, .inr (9, [.int (nI now), .int (nI wk), .ref zcoins, .ref zdebt, .ref zfines, .ref zreading, .int (nI rk), .ref zruleYear, .ref zruleWhat, .ref zruleShare, .int (nI k), .ref zstate, .ref zholder, .ref zyearOf, .ref zusedIn, .ref zprojectOf, .ref zwent, .int ii, .int (nI bk), .ref zbidWorks, .ref zbidMany, .ref zbidPrice, .int ac, .int (nI pj), .ref zisFalse, .ref zcutMany, .ref ztonnes, .ref zcosts, .ref zgiven, .ref zcutOff, .ref zgot, .ref zcutsOf, .int sm, .int mg])), (zreading, .inl (cI, 800, .inl RD)), (zgiven, .inl (cI, 10, .inl (upd (preF (preF GV (fun _ => 0) 10) (gvP RD (now - 1) wk tg) i) (nI i).toNatClampNeg ((tg * (fouV RD i (now - 1))) / (fouA RD (now - 1) wk))))), (zcutOff, .inl (cI, 10, .inl (preF CU (gvC RD (now - 1) wk tg) i)))]) hC hH 2 rfl (vp_in_nI (by omega) (by omega)) rfl dX9_gives_101 (fun H locs hH => ?_)
                        rw [show (upd (preF (preF GV (fun _ => 0) 10) (gvP RD (now - 1) wk tg) i) (nI i).toNatClampNeg ((tg * (fouV RD i (now - 1))) / (fouA RD (now - 1) wk)) : Nat → Int32) = upd (preF (preF GV (fun _ => 0) 10) (gvP RD (now - 1) wk tg) i) i ((tg * (fouV RD i (now - 1))) / (fouA RD (now - 1) wk)) from (by rw [nI_clamp (by omega)])] at hH
                        rw [show (upd (preF (preF GV (fun _ => 0) 10) (gvP RD (now - 1) wk tg) i) i ((tg * (fouV RD i (now - 1))) / (fouA RD (now - 1) wk)) : Nat → Int32) = preF (preF GV (fun _ => 0) 10) (gvP RD (now - 1) wk tg) (i + 1) from preF_upd (if_neg hal4).symm] at hH
                        refine lv_aload_n zx zy dX9_gives_102 rfl (lv_at hl 0 rfl) ?_
                        refine fx_get (C := RX9) (T := TX9) (N := 34) hC (fun _ h => List.mem_cons_of_mem _ (List.mem_append_right _ h)) hH 0 rfl rfl 29 (by decide) (by decide +kernel) rfl dX9_gives_103 ?_
                        refine lv_iload zx zy dX9_gives_106 (lv_at hl 4 rfl) ?_
                        refine lv_iload_n zx zy dX9_gives_108 rfl (lv_at hl 1 rfl) ?_
                        refine lv_aload_n zx zy dX9_gives_109 rfl (lv_at hl 0 rfl) ?_
                        refine lv_iload zx zy dX9_gives_110 (lv_at hl 4 rfl) ?_
                        refine lv_aload_n zx zy dX9_gives_112 rfl (lv_at hl 0 rfl) ?_
                        refine fx_get (C := RX9) (T := TX9) (N := 34) hC (fun _ h => List.mem_cons_of_mem _ (List.mem_append_right _ h)) hH 0 rfl rfl 0 (by decide) (by decide +kernel) rfl dX9_gives_113 ?_
                        refine lv_iconst (v := 1) zx zy dX9_gives_116 (by decide) ?_
                        refine lv_isub zx zy dX9_gives_117 ?_
                        refine lv_topi (fun v22 ev22 => ?_)
                        obtain rfl : v22 = nI (now - 1) := ev22.trans (fx_m1 (by omega))
                        refine fx_cVi (n := 2) (As := [.int (nI i), .int (nI (now - 1))]) (b := h) (rest := [.int tg, .int (nI i), .ref zcutOff]) (fun (u : Unit) => [(h, .inr (9, [.int (nI now), .int (nI wk), .ref zcoins, .ref zdebt, .ref zfines, .ref zreading, .int (nI rk), .ref zruleYear, .ref zruleWhat, .ref zruleShare, .int (nI k), .ref zstate, .ref zholder, .ref zyearOf, .ref zusedIn, .ref zprojectOf, .ref zwent, .int ii, .int (nI bk), .ref zbidWorks, .ref zbidMany, .ref zbidPrice, .int ac, .int (nI pj), .ref zisFalse, .ref zcutMany, .ref ztonnes, .ref zcosts, .ref zgiven, .ref zcutOff, .ref zgot, .ref zcutsOf, .int sm, .int mg])), (zreading, .inl (cI, 800, .inl RD)), (zgiven, .inl (cI, 10, .inl (preF (preF GV (fun _ => 0) 10) (gvP RD (now - 1) wk tg) (i + 1)))), (zcutOff, .inl (cI, 10, .inl (preF CU (gvC RD (now - 1) wk tg) i)))]) hC hA hH (k_X9_fouled_f l D cI cZ h zcoins zdebt zfines zreading zruleYear zruleWhat zruleShare zstate zholder zyearOf zusedIn zprojectOf zwent zbidWorks zbidMany zbidPrice zisFalse zcutMany ztonnes zcosts zgiven zcutOff zgot zcutsOf now wk rk k ii bk ac pj sm mg RD i (now - 1) (by first | assumption | omega) (by first | assumption | omega) (by first | assumption | omega) (by first | assumption | omega)) [0, 1] [2, 3] [2, 3, 0, 1] [(zgiven, .inl (cI, 10, .inl (preF (preF GV (fun _ => 0) 10) (gvP RD (now - 1) wk tg) (i + 1)))), (zcutOff, .inl (cI, 10, .inl (preF CU (gvC RD (now - 1) wk tg) i)))] rfl rfl (by decide) (by decide) (fun _ => rfl) rfl gX9_gives_X9_fouled (by decide +kernel) ⟨Nat.le_of_ble_eq_true rfl, Nat.le_of_ble_eq_true rfl⟩ 0 rfl rfl rfl rfl rfl hl.1 (Nat.le_of_ble_eq_true rfl) ⟨Nat.le_of_ble_eq_true rfl, Nat.le_of_ble_eq_true rfl⟩ dX9_gives_118 (fun r23 u H locs hw118 hH => ?_)
                        obtain rfl : r23 = fouV RD i (now - 1) := hw118
                        have hH := (hH : fx_H zA zs.heap H locs D [(h, .inr (9, [.int (nI now), .int (nI wk), .ref zcoins, .ref zdebt, .ref zfines, .ref zreading, .int (nI rk), .ref zruleYear, .ref zruleWhat, .ref zruleShare, .int (nI k), .ref zstate, .ref zholder, .ref zyearOf, .ref zusedIn, .ref zprojectOf, .ref zwent, .int ii, .int (nI bk), .ref zbidWorks, .ref zbidMany, .ref zbidPrice, .int ac, .int (nI pj), .ref zisFalse, .ref zcutMany, .ref ztonnes, .ref zcosts, .ref zgiven, .ref zcutOff, .ref zgot, .ref zcutsOf, .int sm, .int mg])), (zreading, .inl (cI, 800, .inl RD)), (zgiven, .inl (cI, 10, .inl (preF (preF GV (fun _ => 0) 10) (gvP RD (now - 1) wk tg) (i + 1)))), (zcutOff, .inl (cI, 10, .inl (preF CU (gvC RD (now - 1) wk tg) i)))])
                        refine lv_imul zx zy dX9_gives_121 ?_
                        refine lv_iload_n zx zy dX9_gives_122 rfl (lv_at hl 2 rfl) ?_
                        refine lv_irem zx zy dX9_gives_123 hal3 ?_
                        refine fx_ist (ws2 := [(h, .inr (9, [.int (nI now), .int (nI wk), .ref zcoins, .ref zdebt, .ref zfines, .ref zreading, .int (nI rk), .ref zruleYear, .ref zruleWhat, .ref zruleShare, .int (nI k), .ref zstate, .ref zholder, .ref zyearOf, .ref zusedIn, .ref zprojectOf, .ref zwent, .int ii, .int (nI bk), .ref zbidWorks, .ref zbidMany, .ref zbidPrice, .int ac, .int (nI pj), .ref zisFalse, .ref zcutMany, .ref ztonnes, .ref zcosts, .ref zgiven, .ref zcutOff, .ref zgot, .ref zcutsOf, .int sm, .int mg])), (zreading, .inl (cI, 800, .inl RD)), (zgiven, .inl (cI, 10, .inl (preF (preF GV (fun _ => 0) 10) (gvP RD (now - 1) wk tg) (i + 1)))), (zcutOff, .inl (cI, 10, .inl (upd (preF CU (gvC RD (now - 1) wk tg) i) (nI i).toNatClampNeg ((tg * (fouV RD i (now - 1))) - (tg * (fouV RD i (now - 1))) / (fouA RD (now - 1) wk) * (fouA RD (now - 1) wk)))))]) hC hH 3 rfl (vp_in_nI (by omega) (by omega)) rfl dX9_gives_124 (fun H locs hH => ?_)
                        rw [show (upd (preF CU (gvC RD (now - 1) wk tg) i) (nI i).toNatClampNeg ((tg * (fouV RD i (now - 1))) - (tg * (fouV RD i (now - 1))) / (fouA RD (now - 1) wk) * (fouA RD (now - 1) wk)) : Nat → Int32) = upd (preF CU (gvC RD (now - 1) wk tg) i) i ((tg * (fouV RD i (now - 1))) - (tg * (fouV RD i (now - 1))) / (fouA RD (now - 1) wk) * (fouA RD (now - 1) wk)) from (by rw [nI_clamp (by omega)])] at hH
                        rw [show (upd (preF CU (gvC RD (now - 1) wk tg) i) i ((tg * (fouV RD i (now - 1))) - (tg * (fouV RD i (now - 1))) / (fouA RD (now - 1) wk) * (fouA RD (now - 1) wk)) : Nat → Int32) = preF CU (gvC RD (now - 1) wk tg) (i + 1) from preF_upd (if_neg hal4).symm] at hH
                        refine lv_iload_n zx zy dX9_gives_125 rfl (lv_at hl 3 rfl) ?_
                        refine lv_aload_n zx zy dX9_gives_126 rfl (lv_at hl 0 rfl) ?_
                        refine fx_get (C := RX9) (T := TX9) (N := 34) hC (fun _ h => List.mem_cons_of_mem _ (List.mem_append_right _ h)) hH 0 rfl rfl 28 (by decide) (by decide +kernel) rfl dX9_gives_127 ?_
                        refine lv_iload zx zy dX9_gives_130 (lv_at hl 4 rfl) ?_
                        refine fx_ild hC hH 2 rfl (vp_in_nI (by omega) (by omega)) dX9_gives_132 ?_
                        refine lv_topi (fun v24 ev24 => ?_)
                        obtain rfl : v24 = gvP RD (now - 1) wk tg i := ev24.trans ((congrArg _ (nI_clamp (by omega))).trans (preF_in (by omega)))
                        refine lv_isub zx zy dX9_gives_133 ?_
                        refine lv_istore_n (lv' := [(3, .int (lf - (gvP RD (now - 1) wk tg i))), (0, .ref h), (1, .int tg), (2, .int (fouA RD (now - 1) wk)), (4, .int (nI i))]) zx zy dX9_gives_134 rfl hl (by decide) rfl (fun ls hl => ?_)
                        refine lv_iinc (v := nI (i + 1)) (lv' := [(4, .int (nI (i + 1))), (3, .int (lf - (gvP RD (now - 1) wk tg i))), (0, .ref h), (1, .int tg), (2, .int (fouA RD (now - 1) wk))]) zx zy dX9_gives_135 hl (k := 4) rfl (nI_1 _) (by decide) rfl (fun ls hl => ?_)
                        refine lv_goto (tgt := 70) zx zy dX9_gives_138 (by decide) ?_
                        exact ih70 (i + 1) (lf - (gvP RD (now - 1) wk tg i)) (by first | assumption | omega) (by subst hlf; rfl) _ _ _ (by omega) hH (lv_sub hl [2, 3, 4, 1, 0] rfl)
                  exact L70 _ 0 tg (by first | assumption | omega) (rfl) _ _ _ (Nat.lt_succ_self _) (by rw [preF_0, preF_0]; exact hH) (lv_sub hl [2, 3, 4, 1, 0] rfl)
                · skip
                  exact fx_vret hQ hC hr hlk hH dX9_gives_64 (Nat.le_of_ble_eq_true rfl) (Nat.le_of_ble_eq_true rfl) ((preF GV (fun _ => 0) 10, CU)) rfl (Or.inl ⟨by first | exact Or.inl hnz | exact (Classical.em (now = 0)).elim Or.inl (fun e => Or.inr (by rw [← hjw, ← hal]; exact c61)), fun j hj => preF_in (f := GV) (g := fun _ => 0) hj⟩)
              · skip
                have hnp : 0 < now := fx_pos_of c37 (by omega)
                refine lv_iload_n zx zy dX9_gives_40 rfl (lv_at hl 2 rfl) ?_
                refine lv_aload_n zx zy dX9_gives_41 rfl (lv_at hl 0 rfl) ?_
                refine lv_iload_n zx zy dX9_gives_42 rfl (lv_at hl 3 rfl) ?_
                refine lv_aload_n zx zy dX9_gives_43 rfl (lv_at hl 0 rfl) ?_
                refine fx_get (C := RX9) (T := TX9) (N := 34) hC (fun _ h => List.mem_cons_of_mem _ (List.mem_append_right _ h)) hH 0 rfl rfl 0 (by decide) (by decide +kernel) rfl dX9_gives_44 ?_
                refine lv_iconst (v := 1) zx zy dX9_gives_47 (by decide) ?_
                refine lv_isub zx zy dX9_gives_48 ?_
                refine lv_topi (fun v25 ev25 => ?_)
                obtain rfl : v25 = nI (now - 1) := ev25.trans (fx_m1 (by omega))
                refine fx_cVi (n := 2) (As := [.int (nI j), .int (nI (now - 1))]) (b := h) (rest := [.int al]) (fun (u : Unit) => [(h, .inr (9, [.int (nI now), .int (nI wk), .ref zcoins, .ref zdebt, .ref zfines, .ref zreading, .int (nI rk), .ref zruleYear, .ref zruleWhat, .ref zruleShare, .int (nI k), .ref zstate, .ref zholder, .ref zyearOf, .ref zusedIn, .ref zprojectOf, .ref zwent, .int ii, .int (nI bk), .ref zbidWorks, .ref zbidMany, .ref zbidPrice, .int ac, .int (nI pj), .ref zisFalse, .ref zcutMany, .ref ztonnes, .ref zcosts, .ref zgiven, .ref zcutOff, .ref zgot, .ref zcutsOf, .int sm, .int mg])), (zreading, .inl (cI, 800, .inl RD)), (zgiven, .inl (cI, 10, .inl (preF GV (fun _ => 0) 10))), (zcutOff, .inl (cI, 10, .inl CU))]) hC hA hH (k_X9_fouled_f l D cI cZ h zcoins zdebt zfines zreading zruleYear zruleWhat zruleShare zstate zholder zyearOf zusedIn zprojectOf zwent zbidWorks zbidMany zbidPrice zisFalse zcutMany ztonnes zcosts zgiven zcutOff zgot zcutsOf now wk rk k ii bk ac pj sm mg RD j (now - 1) (by first | assumption | omega) (by first | assumption | omega) (by first | assumption | omega) (by first | assumption | omega)) [0, 1] [2, 3] [2, 3, 0, 1] [(zgiven, .inl (cI, 10, .inl (preF GV (fun _ => 0) 10))), (zcutOff, .inl (cI, 10, .inl CU))] rfl rfl (by decide) (by decide) (fun _ => rfl) rfl gX9_gives_X9_fouled (by decide +kernel) ⟨Nat.le_of_ble_eq_true rfl, Nat.le_of_ble_eq_true rfl⟩ 0 rfl rfl rfl rfl rfl hl.1 (Nat.le_of_ble_eq_true rfl) ⟨Nat.le_of_ble_eq_true rfl, Nat.le_of_ble_eq_true rfl⟩ dX9_gives_49 (fun r26 u H locs hw49 hH => ?_)
                obtain rfl : r26 = fouV RD j (now - 1) := hw49
                have hH := (hH : fx_H zA zs.heap H locs D [(h, .inr (9, [.int (nI now), .int (nI wk), .ref zcoins, .ref zdebt, .ref zfines, .ref zreading, .int (nI rk), .ref zruleYear, .ref zruleWhat, .ref zruleShare, .int (nI k), .ref zstate, .ref zholder, .ref zyearOf, .ref zusedIn, .ref zprojectOf, .ref zwent, .int ii, .int (nI bk), .ref zbidWorks, .ref zbidMany, .ref zbidPrice, .int ac, .int (nI pj), .ref zisFalse, .ref zcutMany, .ref ztonnes, .ref zcosts, .ref zgiven, .ref zcutOff, .ref zgot, .ref zcutsOf, .int sm, .int mg])), (zreading, .inl (cI, 800, .inl RD)), (zgiven, .inl (cI, 10, .inl (preF GV (fun _ => 0) 10))), (zcutOff, .inl (cI, 10, .inl CU))])
                refine lv_iadd zx zy dX9_gives_52 ?_
                refine lv_istore_n (lv' := [(2, .int (al + (fouV RD j (now - 1)))), (0, .ref h), (1, .int tg), (3, .int (nI j))]) zx zy dX9_gives_53 rfl hl (by decide) rfl (fun ls hl => ?_)
                refine lv_iinc (v := nI (j + 1)) (lv' := [(3, .int (nI (j + 1))), (2, .int (al + (fouV RD j (now - 1)))), (0, .ref h), (1, .int tg)]) zx zy dX9_gives_54 hl (k := 3) rfl (nI_1 _) (by decide) rfl (fun ls hl => ?_)
                refine lv_goto (tgt := 25) zx zy dX9_gives_57 (by decide) ?_
                exact ih25 (j + 1) (al + (fouV RD j (now - 1))) (by first | assumption | omega) (by subst hal; rfl) (fun h => absurd h (by omega)) _ _ _ (by omega) hH (lv_sub hl [2, 3, 1, 0] rfl)
        exact L25 _ 0 0 (by first | assumption | omega) (rfl) (fun _ => rfl) _ _ _ (Nat.lt_succ_self _) hH (lv_sub hl [1, 2, 3, 0] rfl)
      · skip
        have hlt : i < 10 := fx_lt_of (b := 10) c7 (by omega)
        refine lv_aload_n zx zy dX9_gives_10 rfl (lv_at hl 0 rfl) ?_
        refine fx_get (C := RX9) (T := TX9) (N := 34) hC (fun _ h => List.mem_cons_of_mem _ (List.mem_append_right _ h)) hH 0 rfl rfl 28 (by decide) (by decide +kernel) rfl dX9_gives_11 ?_
        refine lv_iload_n zx zy dX9_gives_14 rfl (lv_at hl 3 rfl) ?_
        refine lv_iconst (v := 0) zx zy dX9_gives_15 (by decide) ?_
        refine fx_ist (ws2 := [(h, .inr (9, [.int (nI now), .int (nI wk), .ref zcoins, .ref zdebt, .ref zfines, .ref zreading, .int (nI rk), .ref zruleYear, .ref zruleWhat, .ref zruleShare, .int (nI k), .ref zstate, .ref zholder, .ref zyearOf, .ref zusedIn, .ref zprojectOf, .ref zwent, .int ii, .int (nI bk), .ref zbidWorks, .ref zbidMany, .ref zbidPrice, .int ac, .int (nI pj), .ref zisFalse, .ref zcutMany, .ref ztonnes, .ref zcosts, .ref zgiven, .ref zcutOff, .ref zgot, .ref zcutsOf, .int sm, .int mg])), (zreading, .inl (cI, 800, .inl RD)), (zgiven, .inl (cI, 10, .inl (upd (preF GV (fun _ => 0) i) (nI i).toNatClampNeg 0))), (zcutOff, .inl (cI, 10, .inl CU))]) hC hH 2 rfl (vp_in_nI (by omega) (by omega)) rfl dX9_gives_16 (fun H locs hH => ?_)
        rw [show (upd (preF GV (fun _ => 0) i) (nI i).toNatClampNeg 0 : Nat → Int32) = upd (preF GV (fun _ => 0) i) i 0 from (by rw [nI_clamp (by omega)])] at hH
        rw [show (upd (preF GV (fun _ => 0) i) i 0 : Nat → Int32) = preF GV (fun _ => 0) (i + 1) from preF_upd rfl] at hH
        refine lv_iinc (v := nI (i + 1)) (lv' := [(3, .int (nI (i + 1))), (0, .ref h), (1, .int tg), (2, .int 0)]) zx zy dX9_gives_17 hl (k := 3) rfl (nI_1 _) (by decide) rfl (fun ls hl => ?_)
        refine lv_goto (tgt := 4) zx zy dX9_gives_20 (by decide) ?_
        exact ih4 (i + 1) (by first | assumption | omega) _ _ _ (by omega) hH (lv_sub hl [1, 2, 3, 0] rfl)
  exact L4 _ 0 (by first | assumption | omega) _ _ _ (Nat.lt_succ_self _) (by rw [preF_0]; exact hH) (lv_sub hl [2, 3, 1, 0] rfl)
