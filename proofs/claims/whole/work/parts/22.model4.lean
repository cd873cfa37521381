theorem rng_upd {g : Nat → Int32} {k i : Nat} {v : Int32} : upd (rng g k i v) (k + i) v = rng g k (i + 1) v := by
  funext j
  simp only [upd, rng]
  by_cases e : j = k + i
  · subst e; rw [if_pos rfl, if_pos (by omega)]
  · rw [if_neg e]
    by_cases e2 : k ≤ j ∧ j < k + i
    · rw [if_pos e2, if_pos (by omega)]
    · rw [if_neg e2, if_neg (by omega)]
theorem fDe_miss {po ho st de : Nat → Int32} {x : Int32} {i : Nat} (h : ¬ (po i = x ∧ ¬ st i = 0)) : fDe po ho x st de i = fDe po ho x st de (i + 1) := (if_neg h).symm
theorem fDe_hit {po ho st de : Nat → Int32} {x : Int32} {i w : Nat} (h : po i = x ∧ ¬ st i = 0) (hw : ho i = nI w) (hw10 : w < 10) : upd (fDe po ho x st de i) w (fDe po ho x st de i w + 1) = fDe po ho x st de (i + 1) := by
  rw [show fDe po ho x st de (i + 1) = _ from if_pos h, hw, nI_clamp (by omega)]
abbrev EM : Type := (Nat → Int32) × (Nat → Int32) × (Nat → Int32) × (Nat → Int32) × (Nat → Int32) × Int32
def enMs (rd ho : Nat → Int32) (k now : Nat) (fine : Int32) (w : Nat) (s : EM) : EM :=
  let nd := (fouV rd w now + s.2.2.2.1 w).toNatClampNeg
  let n := uzN s.1 ho k w nd
  ((usI ho k (w + 1) (nI now) n s.1 s.2.1).1, (usI ho k (w + 1) (nI now) n s.1 s.2.1).2, upd s.2.2.1 w (s.2.2.1 w - nI (nd - n) * fine), upd s.2.2.2.1 w (nI (nd - n)), upd s.2.2.2.2.1 w (s.2.2.2.2.1 w + nI (nd - n) * fine), s.2.2.2.2.2 + nI (nd - n))
def enM (rd ho : Nat → Int32) (k now : Nat) (fine : Int32) (s0 : EM) : Nat → EM
  | 0 => s0
  | w + 1 => enMs rd ho k now fine w (enM rd ho k now fine s0 w)
set_option maxHeartbeats 4000000 in
set_option maxRecDepth 100000 in
theorem k_X9_offset (l : Launch) (D : va_G) (cI cZ : ClassId) (h : Nat) (zcoins : Nat) (zdebt : Nat) (zfines : Nat) (zreading : Nat) (zruleYear : Nat) (zruleWhat : Nat) (zruleShare : Nat) (zstate : Nat) (zholder : Nat) (zyearOf : Nat) (zusedIn : Nat) (zprojectOf : Nat) (zwent : Nat) (zbidWorks : Nat) (zbidMany : Nat) (zbidPrice : Nat) (zisFalse : Nat) (zcutMany : Nat) (ztonnes : Nat) (zcosts : Nat) (zgiven : Nat) (zcutOff : Nat) (zgot : Nat) (zcutsOf : Nat) (now : Nat) (wk : Nat) (rk : Nat) (k : Nat) (ii : Int32) (bk : Nat) (ac : Int32) (pj : Nat) (sm : Int32) (mg : Int32) (ST : Nat → Int32) (HO : Nat → Int32) (YO : Nat → Int32) (UI : Nat → Int32) (PO : Nat → Int32) (a1 : Int32) (a2 : Int32) (hwk : wk ≤ 10) (hnow : now ≤ 20) (hpj : pj ≤ 20) (hk4 : k ≤ 4000) : fx_CI l D cI cZ yX9_offset wsX9_offset ({ frames := 2, cells := 0, slots := 0, locals := 43 }) [.ref h, .int a1, .int a2] [(h, .inr (9, [.int (nI now), .int (nI wk), .ref zcoins, .ref zdebt, .ref zfines, .ref zreading, .int (nI rk), .ref zruleYear, .ref zruleWhat, .ref zruleShare, .int (nI k), .ref zstate, .ref zholder, .ref zyearOf, .ref zusedIn, .ref zprojectOf, .ref zwent, .int ii, .int (nI bk), .ref zbidWorks, .ref zbidMany, .ref zbidPrice, .int ac, .int (nI pj), .ref zisFalse, .ref zcutMany, .ref ztonnes, .ref zcosts, .ref zgiven, .ref zcutOff, .ref zgot, .ref zcutsOf, .int sm, .int mg])), (zstate, .inl (cI, 4000, .inl ST)), (zholder, .inl (cI, 4000, .inl HO)), (zyearOf, .inl (cI, 4000, .inl YO)), (zusedIn, .inl (cI, 4000, .inl UI)), (zprojectOf, .inl (cI, 4000, .inl PO))] (fun (u : (Nat) × (Nat) × (Nat → Int32) × (Nat → Int32) × (Nat → Int32) × (Nat → Int32) × (Nat → Int32)) => [(h, .inr (9, [.int (nI now), .int (nI wk), .ref zcoins, .ref zdebt, .ref zfines, .ref zreading, .int (nI rk), .ref zruleYear, .ref zruleWhat, .ref zruleShare, .int (nI u.1), .ref zstate, .ref zholder, .ref zyearOf, .ref zusedIn, .ref zprojectOf, .ref zwent, .int ii, .int (nI bk), .ref zbidWorks, .ref zbidMany, .ref zbidPrice, .int ac, .int (nI u.2.1), .ref zisFalse, .ref zcutMany, .ref ztonnes, .ref zcosts, .ref zgiven, .ref zcutOff, .ref zgot, .ref zcutsOf, .int sm, .int mg])), (zstate, .inl (cI, 4000, .inl u.2.2.1)), (zholder, .inl (cI, 4000, .inl u.2.2.2.1)), (zyearOf, .inl (cI, 4000, .inl u.2.2.2.2.1)), (zusedIn, .inl (cI, 4000, .inl u.2.2.2.2.2.1)), (zprojectOf, .inl (cI, 4000, .inl u.2.2.2.2.2.2))]) (fun (r : Int32) (u : (Nat) × (Nat) × (Nat → Int32) × (Nat → Int32) × (Nat → Int32) × (Nat → Int32) × (Nat → Int32)) => (∃ w n, (w < wk ∧ a1 = nI w ∧ 1 ≤ n ∧ n ≤ 100 ∧ a2 = nI n ∧ ofC wk pj now k a1 a2) ∧ r = nI pj ∧ u.2.1 = pj + 1 ∧ u.1 = k + n ∧ u.2.2.1 = rng ST k n 0 ∧ u.2.2.2.1 = rng HO k n (nI w) ∧ u.2.2.2.2.1 = rng YO k n (nI now) ∧ u.2.2.2.2.2.1 = rng UI k n (-1) ∧ u.2.2.2.2.2.2 = rng PO k n (nI pj)) ∨ (¬ ofC wk pj now k a1 a2 ∧ r = -1 ∧ u.2.1 = pj ∧ u.1 = k ∧ u.2.2.1 = ST ∧ u.2.2.2.1 = HO ∧ u.2.2.2.2.1 = YO ∧ u.2.2.2.2.2.1 = UI ∧ u.2.2.2.2.2.2 = PO)) := by
  refine fx_CI.of (ws' := (wsX9_offset).tail) cX9_offset 4 (by decide) rfl (Nat.le_of_ble_eq_true rfl) ?_
  intro zp ze zs zm za zb zt zc zA ls zQ hQ hC hr hlk hA hH hl
  have zx := hC.1.1
  have zy := hC.1.2.1
  have hl : lv_has ls 4 [(0, .ref h), (1, .int a1), (2, .int a2)] := hl
  refine lv_aload_n zx zy dX9_offset_0 rfl (lv_at hl 0 rfl) ?_
  refine lv_iload_n zx zy dX9_offset_1 rfl (lv_at hl 1 rfl) ?_
  refine fx_cVi (n := 1) (As := [.int a1]) (b := h) (rest := []) (fun (u : Unit) => [(h, .inr (9, [.int (nI now), .int (nI wk), .ref zcoins, .ref zdebt, .ref zfines, .ref zreading, .int (nI rk), .ref zruleYear, .ref zruleWhat, .ref zruleShare, .int (nI k), .ref zstate, .ref zholder, .ref zyearOf, .ref zusedIn, .ref zprojectOf, .ref zwent, .int ii, .int (nI bk), .ref zbidWorks, .ref zbidMany, .ref zbidPrice, .int ac, .int (nI pj), .ref zisFalse, .ref zcutMany, .ref ztonnes, .ref zcosts, .ref zgiven, .ref zcutOff, .ref zgot, .ref zcutsOf, .int sm, .int mg])), (zstate, .inl (cI, 4000, .inl ST)), (zholder, .inl (cI, 4000, .inl HO)), (zyearOf, .inl (cI, 4000, .inl YO)), (zusedIn, .inl (cI, 4000, .inl UI)), (zprojectOf, .inl (cI, 4000, .inl PO))]) hC hA hH (k_X9_isWorks l D cI cZ h zcoins zdebt zfines zreading zruleYear zruleWhat zruleShare zstate zholder zyearOf zusedIn zprojectOf zwent zbidWorks zbidMany zbidPrice zisFalse zcutMany ztonnes zcosts zgiven zcutOff zgot zcutsOf now wk rk k ii bk ac pj sm mg a1 (by first | assumption | omega)) [0] [1, 2, 3, 4, 5] [5, 0, 1, 2, 3, 4] [(zstate, .inl (cI, 4000, .inl ST)), (zholder, .inl (cI, 4000, .inl HO)), (zyearOf, .inl (cI, 4000, .inl YO)), (zusedIn, .inl (cI, 4000, .inl UI)), (zprojectOf, .inl (cI, 4000, .inl PO))] rfl rfl (by decide) (by decide) (fun _ => rfl) rfl gX9_offset_X9_isWorks (by decide +kernel) ⟨Nat.le_of_ble_eq_true rfl, Nat.le_of_ble_eq_true rfl⟩ 0 rfl rfl rfl rfl rfl hl.1 (Nat.le_of_ble_eq_true rfl) ⟨Nat.le_of_ble_eq_true rfl, Nat.le_of_ble_eq_true rfl⟩ dX9_offset_2 (fun r1 u H locs hw2 hH => ?_)
  rcases hw2 with ⟨⟨j2, hj2, rfl⟩, rfl⟩ | ⟨hg2, rfl⟩
  · skip
    have hH := (hH : fx_H zA zs.heap H locs D [(h, .inr (9, [.int (nI now), .int (nI wk), .ref zcoins, .ref zdebt, .ref zfines, .ref zreading, .int (nI rk), .ref zruleYear, .ref zruleWhat, .ref zruleShare, .int (nI k), .ref zstate, .ref zholder, .ref zyearOf, .ref zusedIn, .ref zprojectOf, .ref zwent, .int ii, .int (nI bk), .ref zbidWorks, .ref zbidMany, .ref zbidPrice, .int ac, .int (nI pj), .ref zisFalse, .ref zcutMany, .ref ztonnes, .ref zcosts, .ref zgiven, .ref zcutOff, .ref zgot, .ref zcutsOf, .int sm, .int mg])), (zstate, .inl (cI, 4000, .inl ST)), (zholder, .inl (cI, 4000, .inl HO)), (zyearOf, .inl (cI, 4000, .inl YO)), (zusedIn, .inl (cI, 4000, .inl UI)), (zprojectOf, .inl (cI, 4000, .inl PO))])
    have hl := (hl : lv_has ls 4 [(0, .ref h), (1, .int (nI j2)), (2, .int a2)])
    refine lv_if_eq (tgt := 48) zx zy dX9_offset_5 (by decide) (fun c5 => ?_) (fun c5 => ?_)
    · exact absurd c5 (by decide)
    · skip
      refine lv_iload_n zx zy dX9_offset_8 rfl (lv_at hl 2 rfl) ?_
      refine lv_iconst (v := 1) zx zy dX9_offset_9 (by decide) ?_
      refine lv_bipush (v := 100) zx zy dX9_offset_10 (by decide) ?_
      refine fx_cSi (n := 3) (As := [.int a2, .int 1, .int 100]) (rest := []) hC hA hH (k_X9_in l D cI cZ a2 1 100) ⟨rfl, rfl⟩ rfl gX9_offset_X9_in (by decide +kernel) ⟨Nat.le_of_ble_eq_true rfl, Nat.le_of_ble_eq_true rfl⟩ rfl rfl hl.1 (Nat.le_of_ble_eq_true rfl) ⟨(Nat.le_of_ble_eq_true rfl), (Nat.le_of_ble_eq_true rfl)⟩ dX9_offset_12 (fun r2 H locs hw12 hH => ?_)
      rcases hw12 with ⟨hg12, rfl⟩ | ⟨hg12, rfl⟩
      · skip
        have hH := (hH : fx_H zA zs.heap H locs D [(h, .inr (9, [.int (nI now), .int (nI wk), .ref zcoins, .ref zdebt, .ref zfines, .ref zreading, .int (nI rk), .ref zruleYear, .ref zruleWhat, .ref zruleShare, .int (nI k), .ref zstate, .ref zholder, .ref zyearOf, .ref zusedIn, .ref zprojectOf, .ref zwent, .int ii, .int (nI bk), .ref zbidWorks, .ref zbidMany, .ref zbidPrice, .int ac, .int (nI pj), .ref zisFalse, .ref zcutMany, .ref ztonnes, .ref zcosts, .ref zgiven, .ref zcutOff, .ref zgot, .ref zcutsOf, .int sm, .int mg])), (zstate, .inl (cI, 4000, .inl ST)), (zholder, .inl (cI, 4000, .inl HO)), (zyearOf, .inl (cI, 4000, .inl YO)), (zusedIn, .inl (cI, 4000, .inl UI)), (zprojectOf, .inl (cI, 4000, .inl PO))])
        obtain ⟨n12, hn1, hn2, rfl⟩ := w_1in (c := 100) (by omega) hg12.1 hg12.2
        have hl := (hl : lv_has ls 4 [(0, .ref h), (1, .int (nI j2)), (2, .int (nI n12))])
        refine lv_if_eq (tgt := 48) zx zy dX9_offset_15 (by decide) (fun c15 => ?_) (fun c15 => ?_)
        · exact absurd c15 (by decide)
        · skip
          refine lv_aload_n zx zy dX9_offset_18 rfl (lv_at hl 0 rfl) ?_
          refine fx_get (C := RX9) (T := TX9) (N := 34) hC (fun _ h => List.mem_cons_of_mem _ (List.mem_append_right _ h)) hH 0 rfl rfl 23 (by decide) (by decide +kernel) rfl dX9_offset_19 ?_
          refine lv_bipush (v := 20) zx zy dX9_offset_22 (by decide) ?_
          refine lv_icmp_eq (tgt := 48) zx zy dX9_offset_24 (by decide) (fun c24 => ?_) (fun c24 => ?_)
          · skip
            have hp20 : ¬ pj < 20 := by rw [(nI_eq (b := 20) (by omega) (by omega)).mp c24]; omega
            refine lv_iconst (v := (-1)) zx zy dX9_offset_48 (by decide) ?_
            exact fx_iret (v := (-1)) hQ hC hr hlk hH dX9_offset_49 rfl (Nat.le_of_ble_eq_true rfl) (Nat.le_of_ble_eq_true rfl) ((k, pj, ST, HO, YO, UI, PO)) rfl (Or.inr ⟨fun z => by first | exact hg2 z.1 | exact w_1out (c := 100) (by omega) hg12 (z.2.1.imp (fun n q => ⟨q.1, q.2.1, q.2.2.1⟩)) | exact hp20 z.2.2.1 | exact z.2.1.elim (fun n q => hkn (by rw [(nI_eq (by omega) (by omega)).mp q.2.2.1]; exact q.2.2.2)) | exact hn20 z.2.2.2, rfl, rfl, rfl, rfl, rfl, rfl, rfl, rfl⟩)
          · skip
            have hp20 : pj < 20 := Nat.lt_of_le_of_ne hpj (fun e => c24 (by rw [e]; rfl))
            refine lv_aload_n zx zy dX9_offset_27 rfl (lv_at hl 0 rfl) ?_
            refine fx_get (C := RX9) (T := TX9) (N := 34) hC (fun _ h => List.mem_cons_of_mem _ (List.mem_append_right _ h)) hH 0 rfl rfl 10 (by decide) (by decide +kernel) rfl dX9_offset_28 ?_
            refine lv_iload_n zx zy dX9_offset_31 rfl (lv_at hl 2 rfl) ?_
            refine lv_iadd zx zy dX9_offset_32 ?_
            refine lv_topi (fun v3 ev3 => ?_)
            obtain rfl : v3 = nI (k + n12) := ev3.trans (nI_add k n12)
            refine lv_sipush (v := 4000) zx zy dX9_offset_33 (by decide) ?_
            refine lv_icmp_gt (tgt := 48) zx zy dX9_offset_36 (by decide) (fun c36 => ?_) (fun c36 => ?_)
            · skip
              have hkn : ¬ k + n12 ≤ 4000 := Nat.not_le.mpr ((nI_ltI (a := 4000) (by omega) (by omega)).mp c36)
              refine lv_iconst (v := (-1)) zx zy dX9_offset_48 (by decide) ?_
              exact fx_iret (v := (-1)) hQ hC hr hlk hH dX9_offset_49 rfl (Nat.le_of_ble_eq_true rfl) (Nat.le_of_ble_eq_true rfl) ((k, pj, ST, HO, YO, UI, PO)) rfl (Or.inr ⟨fun z => by first | exact hg2 z.1 | exact w_1out (c := 100) (by omega) hg12 (z.2.1.imp (fun n q => ⟨q.1, q.2.1, q.2.2.1⟩)) | exact hp20 z.2.2.1 | exact z.2.1.elim (fun n q => hkn (by rw [(nI_eq (by omega) (by omega)).mp q.2.2.1]; exact q.2.2.2)) | exact hn20 z.2.2.2, rfl, rfl, rfl, rfl, rfl, rfl, rfl, rfl⟩)
            · skip
              have hkn : k + n12 ≤ 4000 := Nat.le_of_not_lt (fun z => c36 (nI_lt (a := 4000) z (by omega)))
              refine lv_aload_n zx zy dX9_offset_39 rfl (lv_at hl 0 rfl) ?_
              refine fx_get (C := RX9) (T := TX9) (N := 34) hC (fun _ h => List.mem_cons_of_mem _ (List.mem_append_right _ h)) hH 0 rfl rfl 0 (by decide) (by decide +kernel) rfl dX9_offset_40 ?_
              refine lv_bipush (v := 20) zx zy dX9_offset_43 (by decide) ?_
              refine lv_icmp_ne (tgt := 50) zx zy dX9_offset_45 (by decide) (fun c45 => ?_) (fun c45 => ?_)
              · skip
                have hn20 : now < 20 := Nat.lt_of_le_of_ne hnow (fun e => c45 (by rw [e]; rfl))
                have hofc : ofC wk pj now k (nI j2) (nI n12) := ⟨⟨j2, hj2, rfl⟩, ⟨n12, hn1, hn2, rfl, hkn⟩, hp20, hn20⟩
                refine lv_iconst (v := 0) zx zy dX9_offset_50 (by decide) ?_
                refine lv_topi (fun v4 ev4 => ?_)
                obtain rfl : v4 = nI 0 := ev4.trans (rfl)
                refine lv_istore_n (lv' := [(3, .int (nI 0)), (0, .ref h), (1, .int (nI j2)), (2, .int (nI n12))]) zx zy dX9_offset_51 rfl hl (by decide) rfl (fun ls hl => ?_)
                have L52 : ∀ (fu : Nat) (i : Nat) (hi : i ≤ n12) (H : Heap) (locs : List Loc) (ls : Array Slot), n12 - i < fu → fx_H zA zs.heap H locs D [(h, .inr (9, [.int (nI now), .int (nI wk), .ref zcoins, .ref zdebt, .ref zfines, .ref zreading, .int (nI rk), .ref zruleYear, .ref zruleWhat, .ref zruleShare, .int (nI (k + i)), .ref zstate, .ref zholder, .ref zyearOf, .ref zusedIn, .ref zprojectOf, .ref zwent, .int ii, .int (nI bk), .ref zbidWorks, .ref zbidMany, .ref zbidPrice, .int ac, .int (nI pj), .ref zisFalse, .ref zcutMany, .ref ztonnes, .ref zcosts, .ref zgiven, .ref zcutOff, .ref zgot, .ref zcutsOf, .int sm, .int mg])), (zstate, .inl (cI, 4000, .inl (rng ST k i 0))), (zholder, .inl (cI, 4000, .inl (rng HO k i (nI j2)))), (zyearOf, .inl (cI, 4000, .inl (rng YO k i (nI now)))), (zusedIn, .inl (cI, 4000, .inl (rng UI k i (-1)))), (zprojectOf, .inl (cI, 4000, .inl (rng PO k i (nI pj))))] → lv_has ls 4 [(0, .ref h), (1, .int (nI j2)), (2, .int (nI n12)), (3, .int (nI i))] → W zp l ze ({ frames := 2, cells := 0, slots := 0, locals := 43 }) zs zm za zb zt zc H locs (0) (0) zQ (F0 zm 52 ls []) := by
                  intro fu
                  induction fu with
                  | zero => intro i hi H locs ls hfu; exact absurd hfu (Nat.not_lt_zero _)
                  | succ fu ih52 =>
                    intro i hi H locs ls hfu52 hH hl
                    refine lv_iload_n zx zy dX9_offset_52 rfl (lv_at hl 3 rfl) ?_
                    refine lv_iload_n zx zy dX9_offset_53 rfl (lv_at hl 2 rfl) ?_
                    refine lv_icmp_ge (tgt := 72) zx zy dX9_offset_54 (by decide) (fun c54 => ?_) (fun c54 => ?_)
                    · skip
                      have hin : i = n12 := Nat.le_antisymm hi (fx_le_of c54 (by omega) (by omega))
                      refine lv_aload_n zx zy dX9_offset_72 rfl (lv_at hl 0 rfl) ?_
                      refine lv_dup zx zy dX9_offset_73 rfl ?_
                      refine fx_get (C := RX9) (T := TX9) (N := 34) hC (fun _ h => List.mem_cons_of_mem _ (List.mem_append_right _ h)) hH 0 rfl rfl 23 (by decide) (by decide +kernel) rfl dX9_offset_74 ?_
                      refine lv_iconst (v := 1) zx zy dX9_offset_77 (by decide) ?_
                      refine lv_iadd zx zy dX9_offset_78 ?_
                      refine lv_topi (fun v5 ev5 => ?_)
                      obtain rfl : v5 = nI (pj + 1) := ev5.trans (nI_1 pj)
                      refine fx_put (C := RX9) (T := TX9) (N := 34) (ty := .int) (ws2 := [(h, .inr (9, [.int (nI now), .int (nI wk), .ref zcoins, .ref zdebt, .ref zfines, .ref zreading, .int (nI rk), .ref zruleYear, .ref zruleWhat, .ref zruleShare, .int (nI (k + i)), .ref zstate, .ref zholder, .ref zyearOf, .ref zusedIn, .ref zprojectOf, .ref zwent, .int ii, .int (nI bk), .ref zbidWorks, .ref zbidMany, .ref zbidPrice, .int ac, .int (nI (pj + 1)), .ref zisFalse, .ref zcutMany, .ref ztonnes, .ref zcosts, .ref zgiven, .ref zcutOff, .ref zgot, .ref zcutsOf, .int sm, .int mg])), (zstate, .inl (cI, 4000, .inl (rng ST k i 0))), (zholder, .inl (cI, 4000, .inl (rng HO k i (nI j2)))), (zyearOf, .inl (cI, 4000, .inl (rng YO k i (nI now)))), (zusedIn, .inl (cI, 4000, .inl (rng UI k i (-1)))), (zprojectOf, .inl (cI, 4000, .inl (rng PO k i (nI pj))))]) hC (fun _ h => List.mem_cons_of_mem _ (List.mem_append_right _ h)) tyX9_ok nmX9 hH 0 rfl rfl 23 (by decide) (by decide +kernel) rfl rfl rfl rfl (Nat.le_of_ble_eq_true rfl) rfl dX9_offset_79 (fun H locs hH => ?_)
                      refine lv_aload_n zx zy dX9_offset_82 rfl (lv_at hl 0 rfl) ?_
                      refine fx_get (C := RX9) (T := TX9) (N := 34) hC (fun _ h => List.mem_cons_of_mem _ (List.mem_append_right _ h)) hH 0 rfl rfl 23 (by decide) (by decide +kernel) rfl dX9_offset_83 ?_
                      refine lv_iconst (v := 1) zx zy dX9_offset_86 (by decide) ?_
                      refine lv_isub zx zy dX9_offset_87 ?_
                      refine lv_topi (fun v6 ev6 => ?_)
                      obtain rfl : v6 = nI pj := ev6.trans (nI_pred pj)
                      exact fx_iret (v := nI pj) hQ hC hr hlk hH dX9_offset_88 rfl (Nat.le_of_ble_eq_true rfl) (Nat.le_of_ble_eq_true rfl) (((k + i), (pj + 1), rng ST k i 0, rng HO k i (nI j2), rng YO k i (nI now), rng UI k i (-1), rng PO k i (nI pj))) rfl (Or.inl ⟨j2, n12, ⟨hj2, rfl, hn1, hn2, rfl, hofc⟩, rfl, rfl, by rw [hin], by rw [hin], by rw [hin], by rw [hin], by rw [hin], by rw [hin]⟩)
                    · skip
                      have hlt : i < n12 := fx_lt_of c54 (by omega)
                      refine lv_aload_n zx zy dX9_offset_57 rfl (lv_at hl 0 rfl) ?_
                      refine lv_iload_n zx zy dX9_offset_58 rfl (lv_at hl 1 rfl) ?_
                      refine lv_aload_n zx zy dX9_offset_59 rfl (lv_at hl 0 rfl) ?_
                      refine fx_get (C := RX9) (T := TX9) (N := 34) hC (fun _ h => List.mem_cons_of_mem _ (List.mem_append_right _ h)) hH 0 rfl rfl 23 (by decide) (by decide +kernel) rfl dX9_offset_60 ?_
                      refine fx_cVv (n := 2) (As := [.int (nI j2), .int (nI pj)]) (b := h) (rest := []) (fun (u : (Nat) × (Nat → Int32) × (Nat → Int32) × (Nat → Int32) × (Nat → Int32) × (Nat → Int32)) => [(h, .inr (9, [.int (nI now), .int (nI wk), .ref zcoins, .ref zdebt, .ref zfines, .ref zreading, .int (nI rk), .ref zruleYear, .ref zruleWhat, .ref zruleShare, .int (nI u.1), .ref zstate, .ref zholder, .ref zyearOf, .ref zusedIn, .ref zprojectOf, .ref zwent, .int ii, .int (nI bk), .ref zbidWorks, .ref zbidMany, .ref zbidPrice, .int ac, .int (nI pj), .ref zisFalse, .ref zcutMany, .ref ztonnes, .ref zcosts, .ref zgiven, .ref zcutOff, .ref zgot, .ref zcutsOf, .int sm, .int mg])), (zstate, .inl (cI, 4000, .inl u.2.1)), (zholder, .inl (cI, 4000, .inl u.2.2.1)), (zyearOf, .inl (cI, 4000, .inl u.2.2.2.1)), (zusedIn, .inl (cI, 4000, .inl u.2.2.2.2.1)), (zprojectOf, .inl (cI, 4000, .inl u.2.2.2.2.2))]) hC hA hH (k_X9_comes l D cI cZ h zcoins zdebt zfines zreading zruleYear zruleWhat zruleShare zstate zholder zyearOf zusedIn zprojectOf zwent zbidWorks zbidMany zbidPrice zisFalse zcutMany ztonnes zcosts zgiven zcutOff zgot zcutsOf now wk rk (k + i) ii bk ac pj sm mg (rng ST k i 0) (rng HO k i (nI j2)) (rng YO k i (nI now)) (rng UI k i (-1)) (rng PO k i (nI pj)) (nI j2) (nI pj) (by first | assumption | omega)) [0, 1, 2, 3, 4, 5] [] [0, 1, 2, 3, 4, 5] [] rfl rfl (by decide) (by decide) (fun _ => rfl) rfl gX9_offset_X9_comes (by decide +kernel) ⟨Nat.le_of_ble_eq_true rfl, Nat.le_of_ble_eq_true rfl⟩ 0 rfl rfl rfl rfl rfl hl.1 (Nat.le_of_ble_eq_true rfl) ⟨Nat.le_of_ble_eq_true rfl, Nat.le_of_ble_eq_true rfl⟩ dX9_offset_63 (fun u H locs hw63 hH => ?_)
                      obtain ⟨u8, u9, u10, u11, u12, u13⟩ := u
                      obtain ⟨e14, e15, e16, e17, e18, e19⟩ := hw63
                      obtain rfl : u8 = (k + i) + 1 := e14
                      obtain rfl : u9 = upd (rng ST k i 0) (k + i) 0 := e15
                      obtain rfl : u10 = upd (rng HO k i (nI j2)) (k + i) (nI j2) := e16
                      obtain rfl : u11 = upd (rng YO k i (nI now)) (k + i) (nI now) := e17
                      obtain rfl : u12 = upd (rng UI k i (-1)) (k + i) (-1) := e18
                      obtain rfl : u13 = upd (rng PO k i (nI pj)) (k + i) (nI pj) := e19
                      have hH := (hH : fx_H zA zs.heap H locs D [(h, .inr (9, [.int (nI now), .int (nI wk), .ref zcoins, .ref zdebt, .ref zfines, .ref zreading, .int (nI rk), .ref zruleYear, .ref zruleWhat, .ref zruleShare, .int (nI ((k + i) + 1)), .ref zstate, .ref zholder, .ref zyearOf, .ref zusedIn, .ref zprojectOf, .ref zwent, .int ii, .int (nI bk), .ref zbidWorks, .ref zbidMany, .ref zbidPrice, .int ac, .int (nI pj), .ref zisFalse, .ref zcutMany, .ref ztonnes, .ref zcosts, .ref zgiven, .ref zcutOff, .ref zgot, .ref zcutsOf, .int sm, .int mg])), (zstate, .inl (cI, 4000, .inl (upd (rng ST k i 0) (k + i) 0))), (zholder, .inl (cI, 4000, .inl (upd (rng HO k i (nI j2)) (k + i) (nI j2)))), (zyearOf, .inl (cI, 4000, .inl (upd (rng YO k i (nI now)) (k + i) (nI now)))), (zusedIn, .inl (cI, 4000, .inl (upd (rng UI k i (-1)) (k + i) (-1)))), (zprojectOf, .inl (cI, 4000, .inl (upd (rng PO k i (nI pj)) (k + i) (nI pj))))])
                      rw [show (upd (rng ST k i 0) (k + i) 0 : Nat → Int32) = rng ST k (i + 1) 0 from rng_upd] at hH
                      rw [show (upd (rng HO k i (nI j2)) (k + i) (nI j2) : Nat → Int32) = rng HO k (i + 1) (nI j2) from rng_upd] at hH
                      rw [show (upd (rng YO k i (nI now)) (k + i) (nI now) : Nat → Int32) = rng YO k (i + 1) (nI now) from rng_upd] at hH
                      rw [show (upd (rng UI k i (-1)) (k + i) (-1) : Nat → Int32) = rng UI k (i + 1) (-1) from rng_upd] at hH
                      rw [show (upd (rng PO k i (nI pj)) (k + i) (nI pj) : Nat → Int32) = rng PO k (i + 1) (nI pj) from rng_upd] at hH
                      refine lv_iinc (v := nI (i + 1)) (lv' := [(3, .int (nI (i + 1))), (0, .ref h), (1, .int (nI j2)), (2, .int (nI n12))]) zx zy dX9_offset_66 hl (k := 3) rfl (nI_1 _) (by decide) rfl (fun ls hl => ?_)
                      refine lv_goto (tgt := 52) zx zy dX9_offset_69 (by decide) ?_
                      exact ih52 (i + 1) (by first | assumption | omega) _ _ _ (by omega) hH (lv_sub hl [1, 2, 3, 0] rfl)
                exact L52 _ 0 (by first | assumption | omega) _ _ _ (Nat.lt_succ_self _) (by rw [rng_0, rng_0, rng_0, rng_0, rng_0]; exact hH) (lv_sub hl [1, 2, 3, 0] rfl)
              · skip
                have hn20 : ¬ now < 20 := by rw [(nI_eq (b := 20) (by omega) (by omega)).mp c45]; omega
                refine lv_iconst (v := (-1)) zx zy dX9_offset_48 (by decide) ?_
                exact fx_iret (v := (-1)) hQ hC hr hlk hH dX9_offset_49 rfl (Nat.le_of_ble_eq_true rfl) (Nat.le_of_ble_eq_true rfl) ((k, pj, ST, HO, YO, UI, PO)) rfl (Or.inr ⟨fun z => by first | exact hg2 z.1 | exact w_1out (c := 100) (by omega) hg12 (z.2.1.imp (fun n q => ⟨q.1, q.2.1, q.2.2.1⟩)) | exact hp20 z.2.2.1 | exact z.2.1.elim (fun n q => hkn (by rw [(nI_eq (by omega) (by omega)).mp q.2.2.1]; exact q.2.2.2)) | exact hn20 z.2.2.2, rfl, rfl, rfl, rfl, rfl, rfl, rfl, rfl⟩)
      · skip
        have hH := (hH : fx_H zA zs.heap H locs D [(h, .inr (9, [.int (nI now), .int (nI wk), .ref zcoins, .ref zdebt, .ref zfines, .ref zreading, .int (nI rk), .ref zruleYear, .ref zruleWhat, .ref zruleShare, .int (nI k), .ref zstate, .ref zholder, .ref zyearOf, .ref zusedIn, .ref zprojectOf, .ref zwent, .int ii, .int (nI bk), .ref zbidWorks, .ref zbidMany, .ref zbidPrice, .int ac, .int (nI pj), .ref zisFalse, .ref zcutMany, .ref ztonnes, .ref zcosts, .ref zgiven, .ref zcutOff, .ref zgot, .ref zcutsOf, .int sm, .int mg])), (zstate, .inl (cI, 4000, .inl ST)), (zholder, .inl (cI, 4000, .inl HO)), (zyearOf, .inl (cI, 4000, .inl YO)), (zusedIn, .inl (cI, 4000, .inl UI)), (zprojectOf, .inl (cI, 4000, .inl PO))])
        refine lv_if_eq (tgt := 48) zx zy dX9_offset_15 (by decide) (fun c15 => ?_) (fun c15 => ?_)
        · skip
          refine lv_iconst (v := (-1)) zx zy dX9_offset_48 (by decide) ?_
          exact fx_iret (v := (-1)) hQ hC hr hlk hH dX9_offset_49 rfl (Nat.le_of_ble_eq_true rfl) (Nat.le_of_ble_eq_true rfl) ((k, pj, ST, HO, YO, UI, PO)) rfl (Or.inr ⟨fun z => by first | exact hg2 z.1 | exact w_1out (c := 100) (by omega) hg12 (z.2.1.imp (fun n q => ⟨q.1, q.2.1, q.2.2.1⟩)) | exact hp20 z.2.2.1 | exact z.2.1.elim (fun n q => hkn (by rw [(nI_eq (by omega) (by omega)).mp q.2.2.1]; exact q.2.2.2)) | exact hn20 z.2.2.2, rfl, rfl, rfl, rfl, rfl, rfl, rfl, rfl⟩)
        · exact absurd c15 (by decide)
  · skip
    have hH := (hH : fx_H zA zs.heap H locs D [(h, .inr (9, [.int (nI now), .int (nI wk), .ref zcoins, .ref zdebt, .ref zfines, .ref zreading, .int (nI rk), .ref zruleYear, .ref zruleWhat, .ref zruleShare, .int (nI k), .ref zstate, .ref zholder, .ref zyearOf, .ref zusedIn, .ref zprojectOf, .ref zwent, .int ii, .int (nI bk), .ref zbidWorks, .ref zbidMany, .ref zbidPrice, .int ac, .int (nI pj), .ref zisFalse, .ref zcutMany, .ref ztonnes, .ref zcosts, .ref zgiven, .ref zcutOff, .ref zgot, .ref zcutsOf, .int sm, .int mg])), (zstate, .inl (cI, 4000, .inl ST)), (zholder, .inl (cI, 4000, .inl HO)), (zyearOf, .inl (cI, 4000, .inl YO)), (zusedIn, .inl (cI, 4000, .inl UI)), (zprojectOf, .inl (cI, 4000, .inl PO))])
    refine lv_if_eq (tgt := 48) zx zy dX9_offset_5 (by decide) (fun c5 => ?_) (fun c5 => ?_)
    · skip
      refine lv_iconst (v := (-1)) zx zy dX9_offset_48 (by decide) ?_
      exact fx_iret (v := (-1)) hQ hC hr hlk hH dX9_offset_49 rfl (Nat.le_of_ble_eq_true rfl) (Nat.le_of_ble_eq_true rfl) ((k, pj, ST, HO, YO, UI, PO)) rfl (Or.inr ⟨fun z => by first | exact hg2 z.1 | exact w_1out (c := 100) (by omega) hg12 (z.2.1.imp (fun n q => ⟨q.1, q.2.1, q.2.2.1⟩)) | exact hp20 z.2.2.1 | exact z.2.1.elim (fun n q => hkn (by rw [(nI_eq (by omega) (by omega)).mp q.2.2.1]; exact q.2.2.2)) | exact hn20 z.2.2.2, rfl, rfl, rfl, rfl, rfl, rfl, rfl, rfl⟩)
    · exact absurd c5 (by decide)
set_option maxHeartbeats 4000000 in
set_option maxRecDepth 100000 in
theorem k_X9_falses (l : Launch) (D : va_G) (cI cZ : ClassId) (h : Nat) (zcoins : Nat) (zdebt : Nat) (zfines : Nat) (zreading : Nat) (zruleYear : Nat) (zruleWhat : Nat) (zruleShare : Nat) (zstate : Nat) (zholder : Nat) (zyearOf : Nat) (zusedIn : Nat) (zprojectOf : Nat) (zwent : Nat) (zbidWorks : Nat) (zbidMany : Nat) (zbidPrice : Nat) (zisFalse : Nat) (zcutMany : Nat) (ztonnes : Nat) (zcosts : Nat) (zgiven : Nat) (zcutOff : Nat) (zgot : Nat) (zcutsOf : Nat) (now : Nat) (wk : Nat) (rk : Nat) (k : Nat) (ii : Int32) (bk : Nat) (ac : Int32) (pj : Nat) (sm : Int32) (mg : Int32) (DE : Nat → Int32) (ST : Nat → Int32) (HO : Nat → Int32) (PO : Nat → Int32) (iF : Nat → Int32) (x : Int32) (hpj : pj ≤ 20) (hk4 : k ≤ 4000) (hproj : ∀ j, j < k → (∃ p, p < 20 ∧ PO j = nI p) → ∃ w, w < 10 ∧ HO j = nI w) : fx_CI l D cI cZ yX9_falses wsX9_falses ({ frames := 1, cells := 0, slots := 0, locals := 22 }) [.ref h, .int x] [(h, .inr (9, [.int (nI now), .int (nI wk), .ref zcoins, .ref zdebt, .ref zfines, .ref zreading, .int (nI rk), .ref zruleYear, .ref zruleWhat, .ref zruleShare, .int (nI k), .ref zstate, .ref zholder, .ref zyearOf, .ref zusedIn, .ref zprojectOf, .ref zwent, .int ii, .int (nI bk), .ref zbidWorks, .ref zbidMany, .ref zbidPrice, .int ac, .int (nI pj), .ref zisFalse, .ref zcutMany, .ref ztonnes, .ref zcosts, .ref zgiven, .ref zcutOff, .ref zgot, .ref zcutsOf, .int sm, .int mg])), (zdebt, .inl (cI, 10, .inl DE)), (zstate, .inl (cI, 4000, .inl ST)), (zholder, .inl (cI, 4000, .inl HO)), (zprojectOf, .inl (cI, 4000, .inl PO)), (zisFalse, .inl (cZ, 20, .inl iF))] (fun (u : (Nat → Int32) × (Nat → Int32) × (Nat → Int32)) => [(h, .inr (9, [.int (nI now), .int (nI wk), .ref zcoins, .ref zdebt, .ref zfines, .ref zreading, .int (nI rk), .ref zruleYear, .ref zruleWhat, .ref zruleShare, .int (nI k), .ref zstate, .ref zholder, .ref zyearOf, .ref zusedIn, .ref zprojectOf, .ref zwent, .int ii, .int (nI bk), .ref zbidWorks, .ref zbidMany, .ref zbidPrice, .int ac, .int (nI pj), .ref zisFalse, .ref zcutMany, .ref ztonnes, .ref zcosts, .ref zgiven, .ref zcutOff, .ref zgot, .ref zcutsOf, .int sm, .int mg])), (zdebt, .inl (cI, 10, .inl u.1)), (zstate, .inl (cI, 4000, .inl u.2.1)), (zholder, .inl (cI, 4000, .inl HO)), (zprojectOf, .inl (cI, 4000, .inl PO)), (zisFalse, .inl (cZ, 20, .inl u.2.2))]) (fun (r : Int32) (u : (Nat → Int32) × (Nat → Int32) × (Nat → Int32)) => (∃ p, (p < pj ∧ x = nI p ∧ iF p = 0) ∧ r = nI (cntP (fHit PO (nI p) ST false) k) ∧ u.2.1 = fSt 3 PO (nI p) ST k ∧ u.1 = fDe PO HO (nI p) ST DE k ∧ u.2.2 = upd iF p 1) ∨ ((∀ p, ¬ (p < pj ∧ x = nI p ∧ iF p = 0)) ∧ r = -1 ∧ u.2.1 = ST ∧ u.1 = DE ∧ u.2.2 = iF)) := by
  refine fx_CI.of (ws' := (wsX9_falses).tail) cX9_falses 4 (by decide) rfl (Nat.le_of_ble_eq_true rfl) ?_
  intro zp ze zs zm za zb zt zc zA ls zQ hQ hC hr hlk hA hH hl
  have zx := hC.1.1
  have zy := hC.1.2.1
  have hl : lv_has ls 4 [(0, .ref h), (1, .int x)] := hl
  refine lv_iload_n zx zy dX9_falses_0 rfl (lv_at hl 1 rfl) ?_
  refine lv_iconst (v := 0) zx zy dX9_falses_1 (by decide) ?_
  refine lv_aload_n zx zy dX9_falses_2 rfl (lv_at hl 0 rfl) ?_
  refine fx_get (C := RX9) (T := TX9) (N := 34) hC (fun _ h => List.mem_cons_of_mem _ (List.mem_append_right _ h)) hH 0 rfl rfl 23 (by decide) (by decide +kernel) rfl dX9_falses_3 ?_
  refine lv_iconst (v := 1) zx zy dX9_falses_6 (by decide) ?_
  refine lv_isub zx zy dX9_falses_7 ?_
  refine fx_cSi (n := 3) (As := [.int x, .int 0, .int ((nI pj) - 1)]) (rest := []) hC hA hH (k_X9_in l D cI cZ x 0 ((nI pj) - 1)) ⟨rfl, rfl⟩ rfl gX9_falses_X9_in (by decide +kernel) ⟨Nat.le_of_ble_eq_true rfl, Nat.le_of_ble_eq_true rfl⟩ rfl rfl hl.1 (Nat.le_of_ble_eq_true rfl) ⟨(Nat.le_of_ble_eq_true rfl), (Nat.le_of_ble_eq_true rfl)⟩ dX9_falses_8 (fun r1 H locs hw8 hH => ?_)
  rcases hw8 with ⟨hg8, rfl⟩ | ⟨hg8, rfl⟩
  · skip
    have hH := (hH : fx_H zA zs.heap H locs D [(h, .inr (9, [.int (nI now), .int (nI wk), .ref zcoins, .ref zdebt, .ref zfines, .ref zreading, .int (nI rk), .ref zruleYear, .ref zruleWhat, .ref zruleShare, .int (nI k), .ref zstate, .ref zholder, .ref zyearOf, .ref zusedIn, .ref zprojectOf, .ref zwent, .int ii, .int (nI bk), .ref zbidWorks, .ref zbidMany, .ref zbidPrice, .int ac, .int (nI pj), .ref zisFalse, .ref zcutMany, .ref ztonnes, .ref zcosts, .ref zgiven, .ref zcutOff, .ref zgot, .ref zcutsOf, .int sm, .int mg])), (zdebt, .inl (cI, 10, .inl DE)), (zstate, .inl (cI, 4000, .inl ST)), (zholder, .inl (cI, 4000, .inl HO)), (zprojectOf, .inl (cI, 4000, .inl PO)), (zisFalse, .inl (cZ, 20, .inl iF))])
    obtain ⟨q8, hq8, rfl⟩ := w_inK (by omega) hg8.1 hg8.2
    have hl := (hl : lv_has ls 4 [(0, .ref h), (1, .int (nI q8))])
    refine lv_if_eq (tgt := 23) zx zy dX9_falses_11 (by decide) (fun c11 => ?_) (fun c11 => ?_)
    · exact absurd c11 (by decide)
    · skip
      refine lv_aload_n zx zy dX9_falses_14 rfl (lv_at hl 0 rfl) ?_
      refine fx_get (C := RX9) (T := TX9) (N := 34) hC (fun _ h => List.mem_cons_of_mem _ (List.mem_append_right _ h)) hH 0 rfl rfl 24 (by decide) (by decide +kernel) rfl dX9_falses_15 ?_
      refine lv_iload_n zx zy dX9_falses_18 rfl (lv_at hl 1 rfl) ?_
      refine fx_zld hC hH 5 rfl (vp_in_nI (by omega) (by omega)) dX9_falses_19 ?_
      refine lv_topi (fun v2 ev2 => ?_)
      obtain rfl : v2 = iF q8 := ev2.trans (congrArg iF (nI_clamp (by omega)))
      refine lv_if_eq (tgt := 25) zx zy dX9_falses_20 (by decide) (fun c20 => ?_) (fun c20 => ?_)
      · skip
        refine lv_aload_n zx zy dX9_falses_25 rfl (lv_at hl 0 rfl) ?_
        refine fx_get (C := RX9) (T := TX9) (N := 34) hC (fun _ h => List.mem_cons_of_mem _ (List.mem_append_right _ h)) hH 0 rfl rfl 24 (by decide) (by decide +kernel) rfl dX9_falses_26 ?_
        refine lv_iload_n zx zy dX9_falses_29 rfl (lv_at hl 1 rfl) ?_
        refine lv_iconst (v := 1) zx zy dX9_falses_30 (by decide) ?_
        refine fx_zst (ws2 := [(h, .inr (9, [.int (nI now), .int (nI wk), .ref zcoins, .ref zdebt, .ref zfines, .ref zreading, .int (nI rk), .ref zruleYear, .ref zruleWhat, .ref zruleShare, .int (nI k), .ref zstate, .ref zholder, .ref zyearOf, .ref zusedIn, .ref zprojectOf, .ref zwent, .int ii, .int (nI bk), .ref zbidWorks, .ref zbidMany, .ref zbidPrice, .int ac, .int (nI pj), .ref zisFalse, .ref zcutMany, .ref ztonnes, .ref zcosts, .ref zgiven, .ref zcutOff, .ref zgot, .ref zcutsOf, .int sm, .int mg])), (zdebt, .inl (cI, 10, .inl DE)), (zstate, .inl (cI, 4000, .inl ST)), (zholder, .inl (cI, 4000, .inl HO)), (zprojectOf, .inl (cI, 4000, .inl PO)), (zisFalse, .inl (cZ, 20, .inl (upd iF (nI q8).toNatClampNeg (vp_nar .boolean 1))))]) hC hH 5 rfl (vp_in_nI (by omega) (by omega)) rfl dX9_falses_31 (fun H locs hH => ?_)
        rw [show (upd iF (nI q8).toNatClampNeg (vp_nar .boolean 1) : Nat → Int32) = upd iF q8 1 from (by rw [nI_clamp (by omega)] <;> rfl)] at hH
        refine lv_iconst (v := 0) zx zy dX9_falses_32 (by decide) ?_
        refine lv_istore_n (lv' := [(2, .int 0), (0, .ref h), (1, .int (nI q8))]) zx zy dX9_falses_33 rfl hl (by decide) rfl (fun ls hl => ?_)
        refine lv_iconst (v := 0) zx zy dX9_falses_34 (by decide) ?_
        refine lv_topi (fun v3 ev3 => ?_)
        obtain rfl : v3 = nI 0 := ev3.trans (rfl)
        refine lv_istore_n (lv' := [(3, .int (nI 0)), (2, .int 0), (0, .ref h), (1, .int (nI q8))]) zx zy dX9_falses_35 rfl hl (by decide) rfl (fun ls hl => ?_)
        have L36 : ∀ (fu : Nat) (i : Nat) (n : Int32) (hi : i ≤ k) (hn : n = nI (cntP (fHit PO (nI q8) ST false) i)) (H : Heap) (locs : List Loc) (ls : Array Slot), k - i < fu → fx_H zA zs.heap H locs D [(h, .inr (9, [.int (nI now), .int (nI wk), .ref zcoins, .ref zdebt, .ref zfines, .ref zreading, .int (nI rk), .ref zruleYear, .ref zruleWhat, .ref zruleShare, .int (nI k), .ref zstate, .ref zholder, .ref zyearOf, .ref zusedIn, .ref zprojectOf, .ref zwent, .int ii, .int (nI bk), .ref zbidWorks, .ref zbidMany, .ref zbidPrice, .int ac, .int (nI pj), .ref zisFalse, .ref zcutMany, .ref ztonnes, .ref zcosts, .ref zgiven, .ref zcutOff, .ref zgot, .ref zcutsOf, .int sm, .int mg])), (zdebt, .inl (cI, 10, .inl (fDe PO HO (nI q8) ST DE i))), (zstate, .inl (cI, 4000, .inl (fSt 3 PO (nI q8) ST i))), (zholder, .inl (cI, 4000, .inl HO)), (zprojectOf, .inl (cI, 4000, .inl PO)), (zisFalse, .inl (cZ, 20, .inl (upd iF q8 1)))] → lv_has ls 4 [(0, .ref h), (1, .int (nI q8)), (2, .int n), (3, .int (nI i))] → W zp l ze ({ frames := 1, cells := 0, slots := 0, locals := 22 }) zs zm za zb zt zc H locs (0) (0) zQ (F0 zm 36 ls []) := by
          intro fu
          induction fu with
          | zero => intro i n hi hn H locs ls hfu; exact absurd hfu (Nat.not_lt_zero _)
          | succ fu ih36 =>
            intro i n hi hn H locs ls hfu36 hH hl
            refine lv_iload_n zx zy dX9_falses_36 rfl (lv_at hl 3 rfl) ?_
            refine lv_aload_n zx zy dX9_falses_37 rfl (lv_at hl 0 rfl) ?_
            refine fx_get (C := RX9) (T := TX9) (N := 34) hC (fun _ h => List.mem_cons_of_mem _ (List.mem_append_right _ h)) hH 0 rfl rfl 10 (by decide) (by decide +kernel) rfl dX9_falses_38 ?_
            refine lv_icmp_ge (tgt := 100) zx zy dX9_falses_41 (by decide) (fun c41 => ?_) (fun c41 => ?_)
            · skip
              have hik : i = k := Nat.le_antisymm hi (fx_le_of c41 (by omega) (by omega))
              refine lv_iload_n zx zy dX9_falses_100 rfl (lv_at hl 2 rfl) ?_
              exact fx_iret (v := n) hQ hC hr hlk hH dX9_falses_101 rfl (Nat.le_of_ble_eq_true rfl) (Nat.le_of_ble_eq_true rfl) ((fDe PO HO (nI q8) ST DE i, fSt 3 PO (nI q8) ST i, upd iF q8 1)) rfl (Or.inl ⟨q8, ⟨hq8, rfl, c20⟩, by rw [hn, hik], by rw [hik], by rw [hik], rfl⟩)
            · skip
              have hlt : i < k := fx_lt_of c41 (by omega)
              refine lv_aload_n zx zy dX9_falses_44 rfl (lv_at hl 0 rfl) ?_
              refine fx_get (C := RX9) (T := TX9) (N := 34) hC (fun _ h => List.mem_cons_of_mem _ (List.mem_append_right _ h)) hH 0 rfl rfl 15 (by decide) (by decide +kernel) rfl dX9_falses_45 ?_
              refine lv_iload_n zx zy dX9_falses_48 rfl (lv_at hl 3 rfl) ?_
              refine fx_ild hC hH 4 rfl (vp_in_nI (by omega) (by omega)) dX9_falses_49 ?_
              refine lv_topi (fun v4 ev4 => ?_)
              obtain rfl : v4 = PO i := ev4.trans (congrArg PO (nI_clamp (by omega)))
              refine lv_iload_n zx zy dX9_falses_50 rfl (lv_at hl 1 rfl) ?_
              refine lv_icmp_eq (tgt := 57) zx zy dX9_falses_51 (by decide) (fun c51 => ?_) (fun c51 => ?_)
              · skip
                obtain ⟨wq, hwq, ewq⟩ := hproj i hlt ⟨q8, by omega, c51⟩
                refine lv_aload_n zx zy dX9_falses_57 rfl (lv_at hl 0 rfl) ?_
                refine fx_get (C := RX9) (T := TX9) (N := 34) hC (fun _ h => List.mem_cons_of_mem _ (List.mem_append_right _ h)) hH 0 rfl rfl 11 (by decide) (by decide +kernel) rfl dX9_falses_58 ?_
                refine lv_iload_n zx zy dX9_falses_61 rfl (lv_at hl 3 rfl) ?_
                refine fx_ild hC hH 2 rfl (vp_in_nI (by omega) (by omega)) dX9_falses_62 ?_
                refine lv_topi (fun v5 ev5 => ?_)
                obtain rfl : v5 = (fSt 3 PO (nI q8) ST i) i := ev5.trans (congrArg (fSt 3 PO (nI q8) ST i) (nI_clamp (by omega)))
                refine lv_if_ne (tgt := 76) zx zy dX9_falses_63 (by decide) (fun c63 => ?_) (fun c63 => ?_)
                · skip
                  have hst : ¬ ST i = 0 := fun e => c63 (fSt_at.trans e)
                  refine lv_aload_n zx zy dX9_falses_76 rfl (lv_at hl 0 rfl) ?_
                  refine fx_get (C := RX9) (T := TX9) (N := 34) hC (fun _ h => List.mem_cons_of_mem _ (List.mem_append_right _ h)) hH 0 rfl rfl 3 (by decide) (by decide +kernel) rfl dX9_falses_77 ?_
                  refine lv_aload_n zx zy dX9_falses_80 rfl (lv_at hl 0 rfl) ?_
                  refine fx_get (C := RX9) (T := TX9) (N := 34) hC (fun _ h => List.mem_cons_of_mem _ (List.mem_append_right _ h)) hH 0 rfl rfl 12 (by decide) (by decide +kernel) rfl dX9_falses_81 ?_
                  refine lv_iload_n zx zy dX9_falses_84 rfl (lv_at hl 3 rfl) ?_
                  refine fx_ild hC hH 3 rfl (vp_in_nI (by omega) (by omega)) dX9_falses_85 ?_
                  refine lv_topi (fun v6 ev6 => ?_)
                  obtain rfl : v6 = nI wq := ev6.trans ((congrArg HO (nI_clamp (by omega))).trans ewq)
                  refine lv_dup2_11 zx zy dX9_falses_86 rfl rfl ?_
                  refine fx_ild hC hH 1 rfl (vp_in_nI (by omega) (by omega)) dX9_falses_87 ?_
                  refine lv_topi (fun v7 ev7 => ?_)
                  obtain rfl : v7 = (fDe PO HO (nI q8) ST DE i) wq := ev7.trans (congrArg (fDe PO HO (nI q8) ST DE i) (nI_clamp (by omega)))
                  refine lv_iconst (v := 1) zx zy dX9_falses_88 (by decide) ?_
                  refine lv_iadd zx zy dX9_falses_89 ?_
                  refine fx_ist (ws2 := [(h, .inr (9, [.int (nI now), .int (nI wk), .ref zcoins, .ref zdebt, .ref zfines, .ref zreading, .int (nI rk), .ref zruleYear, .ref zruleWhat, .ref zruleShare, .int (nI k), .ref zstate, .ref zholder, .ref zyearOf, .ref zusedIn, .ref zprojectOf, .ref zwent, .int ii, .int (nI bk), .ref zbidWorks, .ref zbidMany, .ref zbidPrice, .int ac, .int (nI pj), .ref zisFalse, .ref zcutMany, .ref ztonnes, .ref zcosts, .ref zgiven, .ref zcutOff, .ref zgot, .ref zcutsOf, .int sm, .int mg])), (zdebt, .inl (cI, 10, .inl (upd (fDe PO HO (nI q8) ST DE i) (nI wq).toNatClampNeg (((fDe PO HO (nI q8) ST DE i) wq) + 1)))), (zstate, .inl (cI, 4000, .inl (fSt 3 PO (nI q8) ST i))), (zholder, .inl (cI, 4000, .inl HO)), (zprojectOf, .inl (cI, 4000, .inl PO)), (zisFalse, .inl (cZ, 20, .inl (upd iF q8 1)))]) hC hH 1 rfl (vp_in_nI (by omega) (by omega)) rfl dX9_falses_90 (fun H locs hH => ?_)
                  rw [show (upd (fDe PO HO (nI q8) ST DE i) (nI wq).toNatClampNeg (((fDe PO HO (nI q8) ST DE i) wq) + 1) : Nat → Int32) = upd (fDe PO HO (nI q8) ST DE i) wq (((fDe PO HO (nI q8) ST DE i) wq) + 1) from (by rw [nI_clamp (by omega)])] at hH
                  rw [show (upd (fDe PO HO (nI q8) ST DE i) wq (((fDe PO HO (nI q8) ST DE i) wq) + 1) : Nat → Int32) = fDe PO HO (nI q8) ST DE (i + 1) from fDe_hit ⟨c51, hst⟩ ewq hwq] at hH
                  refine lv_iinc (v := n + 1) (lv' := [(2, .int (n + 1)), (0, .ref h), (1, .int (nI q8)), (3, .int (nI i))]) zx zy dX9_falses_91 hl (k := 2) rfl rfl (by decide) rfl (fun ls hl => ?_)
                  refine lv_iinc (v := nI (i + 1)) (lv' := [(3, .int (nI (i + 1))), (2, .int (n + 1)), (0, .ref h), (1, .int (nI q8))]) zx zy dX9_falses_94 hl (k := 3) rfl (nI_1 _) (by decide) rfl (fun ls hl => ?_)
                  refine lv_goto (tgt := 36) zx zy dX9_falses_97 (by decide) ?_
                  exact ih36 (i + 1) (n + 1) (by first | assumption | omega) (by rw [hn]; first | (rw [cnt_f (hit_n c51 false)]; done) | (rw [cnt_f (hit_t c51 hst).2]; done) | (rw [cnt_t (hit_f c51 hst).2]; exact nI_1 _)) _ _ _ (by omega) (by first | exact hH | (rw [fDe_miss (fun z => z.2 hst)] at hH; exact hH) | (rw [fSt_miss (fun z => hst z.2)] at hH; exact hH) | (rw [fSt_miss (fun z => c51 z.1), fDe_miss (fun z => c51 z.1)] at hH; exact hH)) (lv_sub hl [2, 3, 1, 0] rfl)
                · skip
                  have hst : ST i = 0 := fSt_at.symm.trans c63
                  refine lv_aload_n zx zy dX9_falses_66 rfl (lv_at hl 0 rfl) ?_
                  refine fx_get (C := RX9) (T := TX9) (N := 34) hC (fun _ h => List.mem_cons_of_mem _ (List.mem_append_right _ h)) hH 0 rfl rfl 11 (by decide) (by decide +kernel) rfl dX9_falses_67 ?_
                  refine lv_iload_n zx zy dX9_falses_70 rfl (lv_at hl 3 rfl) ?_
                  refine lv_iconst (v := 3) zx zy dX9_falses_71 (by decide) ?_
                  refine fx_ist (ws2 := [(h, .inr (9, [.int (nI now), .int (nI wk), .ref zcoins, .ref zdebt, .ref zfines, .ref zreading, .int (nI rk), .ref zruleYear, .ref zruleWhat, .ref zruleShare, .int (nI k), .ref zstate, .ref zholder, .ref zyearOf, .ref zusedIn, .ref zprojectOf, .ref zwent, .int ii, .int (nI bk), .ref zbidWorks, .ref zbidMany, .ref zbidPrice, .int ac, .int (nI pj), .ref zisFalse, .ref zcutMany, .ref ztonnes, .ref zcosts, .ref zgiven, .ref zcutOff, .ref zgot, .ref zcutsOf, .int sm, .int mg])), (zdebt, .inl (cI, 10, .inl (fDe PO HO (nI q8) ST DE i))), (zstate, .inl (cI, 4000, .inl (upd (fSt 3 PO (nI q8) ST i) (nI i).toNatClampNeg 3))), (zholder, .inl (cI, 4000, .inl HO)), (zprojectOf, .inl (cI, 4000, .inl PO)), (zisFalse, .inl (cZ, 20, .inl (upd iF q8 1)))]) hC hH 2 rfl (vp_in_nI (by omega) (by omega)) rfl dX9_falses_72 (fun H locs hH => ?_)
                  rw [show (upd (fSt 3 PO (nI q8) ST i) (nI i).toNatClampNeg 3 : Nat → Int32) = upd (fSt 3 PO (nI q8) ST i) i 3 from (by rw [nI_clamp (by omega)])] at hH
                  rw [show (upd (fSt 3 PO (nI q8) ST i) i 3 : Nat → Int32) = fSt 3 PO (nI q8) ST (i + 1) from fSt_hit c51 hst] at hH
                  refine lv_goto (tgt := 94) zx zy dX9_falses_73 (by decide) ?_
                  refine lv_iinc (v := nI (i + 1)) (lv' := [(3, .int (nI (i + 1))), (0, .ref h), (1, .int (nI q8)), (2, .int n)]) zx zy dX9_falses_94 hl (k := 3) rfl (nI_1 _) (by decide) rfl (fun ls hl => ?_)
                  refine lv_goto (tgt := 36) zx zy dX9_falses_97 (by decide) ?_
                  exact ih36 (i + 1) n (by first | assumption | omega) (by rw [hn]; first | (rw [cnt_f (hit_n c51 false)]; done) | (rw [cnt_f (hit_t c51 hst).2]; done) | (rw [cnt_t (hit_f c51 hst).2]; exact nI_1 _)) _ _ _ (by omega) (by first | exact hH | (rw [fDe_miss (fun z => z.2 hst)] at hH; exact hH) | (rw [fSt_miss (fun z => hst z.2)] at hH; exact hH) | (rw [fSt_miss (fun z => c51 z.1), fDe_miss (fun z => c51 z.1)] at hH; exact hH)) (lv_sub hl [1, 2, 3, 0] rfl)
              · skip
                refine lv_goto (tgt := 94) zx zy dX9_falses_54 (by decide) ?_
                refine lv_iinc (v := nI (i + 1)) (lv' := [(3, .int (nI (i + 1))), (0, .ref h), (1, .int (nI q8)), (2, .int n)]) zx zy dX9_falses_94 hl (k := 3) rfl (nI_1 _) (by decide) rfl (fun ls hl => ?_)
                refine lv_goto (tgt := 36) zx zy dX9_falses_97 (by decide) ?_
                exact ih36 (i + 1) n (by first | assumption | omega) (by rw [hn]; first | (rw [cnt_f (hit_n c51 false)]; done) | (rw [cnt_f (hit_t c51 hst).2]; done) | (rw [cnt_t (hit_f c51 hst).2]; exact nI_1 _)) _ _ _ (by omega) (by first | exact hH | (rw [fDe_miss (fun z => z.2 hst)] at hH; exact hH) | (rw [fSt_miss (fun z => hst z.2)] at hH; exact hH) | (rw [fSt_miss (fun z => c51 z.1), fDe_miss (fun z => c51 z.1)] at hH; exact hH)) (lv_sub hl [1, 2, 3, 0] rfl)
        exact L36 _ 0 0 (by first | assumption | omega) (rfl) _ _ _ (Nat.lt_succ_self _) (by rw [fSt_0]; exact hH) (lv_sub hl [2, 3, 1, 0] rfl)
      · skip
        refine lv_iconst (v := (-1)) zx zy dX9_falses_23 (by decide) ?_
        exact fx_iret (v := (-1)) hQ hC hr hlk hH dX9_falses_24 rfl (Nat.le_of_ble_eq_true rfl) (Nat.le_of_ble_eq_true rfl) ((DE, ST, iF)) rfl (Or.inr ⟨fun p z => by first | exact w_outK (by omega) hg8 ⟨p, z.1, z.2.1⟩ | exact c20 (by rw [(nI_eq (by omega) (by omega)).mp z.2.1]; exact z.2.2), rfl, rfl, rfl, rfl⟩)
  · skip
    have hH := (hH : fx_H zA zs.heap H locs D [(h, .inr (9, [.int (nI now), .int (nI wk), .ref zcoins, .ref zdebt, .ref zfines, .ref zreading, .int (nI rk), .ref zruleYear, .ref zruleWhat, .ref zruleShare, .int (nI k), .ref zstate, .ref zholder, .ref zyearOf, .ref zusedIn, .ref zprojectOf, .ref zwent, .int ii, .int (nI bk), .ref zbidWorks, .ref zbidMany, .ref zbidPrice, .int ac, .int (nI pj), .ref zisFalse, .ref zcutMany, .ref ztonnes, .ref zcosts, .ref zgiven, .ref zcutOff, .ref zgot, .ref zcutsOf, .int sm, .int mg])), (zdebt, .inl (cI, 10, .inl DE)), (zstate, .inl (cI, 4000, .inl ST)), (zholder, .inl (cI, 4000, .inl HO)), (zprojectOf, .inl (cI, 4000, .inl PO)), (zisFalse, .inl (cZ, 20, .inl iF))])
    refine lv_if_eq (tgt := 23) zx zy dX9_falses_11 (by decide) (fun c11 => ?_) (fun c11 => ?_)
    · skip
      refine lv_iconst (v := (-1)) zx zy dX9_falses_23 (by decide) ?_
      exact fx_iret (v := (-1)) hQ hC hr hlk hH dX9_falses_24 rfl (Nat.le_of_ble_eq_true rfl) (Nat.le_of_ble_eq_true rfl) ((DE, ST, iF)) rfl (Or.inr ⟨fun p z => by first | exact w_outK (by omega) hg8 ⟨p, z.1, z.2.1⟩ | exact c20 (by rw [(nI_eq (by omega) (by omega)).mp z.2.1]; exact z.2.2), rfl, rfl, rfl, rfl⟩)
    · exact absurd c11 (by decide)
set_option maxHeartbeats 4000000 in
set_option maxRecDepth 100000 in
theorem k_X9_end (l : Launch) (D : va_G) (cI cZ : ClassId) (h : Nat) (zcoins : Nat) (zdebt : Nat) (zfines : Nat) (zreading : Nat) (zruleYear : Nat) (zruleWhat : Nat) (zruleShare : Nat) (zstate : Nat) (zholder : Nat) (zyearOf : Nat) (zusedIn : Nat) (zprojectOf : Nat) (zwent : Nat) (zbidWorks : Nat) (zbidMany : Nat) (zbidPrice : Nat) (zisFalse : Nat) (zcutMany : Nat) (ztonnes : Nat) (zcosts : Nat) (zgiven : Nat) (zcutOff : Nat) (zgot : Nat) (zcutsOf : Nat) (now : Nat) (wk : Nat) (rk : Nat) (k : Nat) (ii : Int32) (bk : Nat) (ac : Int32) (pj : Nat) (sm : Int32) (mg : Int32) (CO : Nat → Int32) (DE : Nat → Int32) (FI : Nat → Int32) (RD : Nat → Int32) (RY : Nat → Int32) (RS : Nat → Int32) (ST : Nat → Int32) (HO : Nat → Int32) (UI : Nat → Int32) (hwk : wk ≤ 10) (hnow : now ≤ 20) (hk : rk ≤ 30) (hk4 : k ≤ 4000) (hRD : ∀ j, j < 800 → RD j = -1 ∨ ∃ v, v < 100 ∧ RD j = nI v) (hnd : now < 20 → ∀ w, w < wk → ∃ nd, nd < 2 ^ 31 ∧ fouV RD w now + DE w = nI nd) : fx_CI l D cI cZ yX9_end wsX9_end ({ frames := 3, cells := 0, slots := 0, locals := 70 }) [.ref h] [(h, .inr (9, [.int (nI now), .int (nI wk), .ref zcoins, .ref zdebt, .ref zfines, .ref zreading, .int (nI rk), .ref zruleYear, .ref zruleWhat, .ref zruleShare, .int (nI k), .ref zstate, .ref zholder, .ref zyearOf, .ref zusedIn, .ref zprojectOf, .ref zwent, .int ii, .int (nI bk), .ref zbidWorks, .ref zbidMany, .ref zbidPrice, .int ac, .int (nI pj), .ref zisFalse, .ref zcutMany, .ref ztonnes, .ref zcosts, .ref zgiven, .ref zcutOff, .ref zgot, .ref zcutsOf, .int sm, .int mg])), (zcoins, .inl (cI, 10, .inl CO)), (zdebt, .inl (cI, 10, .inl DE)), (zfines, .inl (cI, 10, .inl FI)), (zreading, .inl (cI, 800, .inl RD)), (zruleYear, .inl (cI, 30, .inl RY)), (zruleShare, .inl (cI, 30, .inl RS)), (zstate, .inl (cI, 4000, .inl ST)), (zholder, .inl (cI, 4000, .inl HO)), (zusedIn, .inl (cI, 4000, .inl UI))] (fun (u : (Nat) × (Nat → Int32) × (Nat → Int32) × (Nat → Int32) × (Nat → Int32) × (Nat → Int32)) => [(h, .inr (9, [.int (nI u.1), .int (nI wk), .ref zcoins, .ref zdebt, .ref zfines, .ref zreading, .int (nI rk), .ref zruleYear, .ref zruleWhat, .ref zruleShare, .int (nI k), .ref zstate, .ref zholder, .ref zyearOf, .ref zusedIn, .ref zprojectOf, .ref zwent, .int ii, .int (nI bk), .ref zbidWorks, .ref zbidMany, .ref zbidPrice, .int ac, .int (nI pj), .ref zisFalse, .ref zcutMany, .ref ztonnes, .ref zcosts, .ref zgiven, .ref zcutOff, .ref zgot, .ref zcutsOf, .int sm, .int mg])), (zcoins, .inl (cI, 10, .inl u.2.1)), (zdebt, .inl (cI, 10, .inl u.2.2.1)), (zfines, .inl (cI, 10, .inl u.2.2.2.1)), (zreading, .inl (cI, 800, .inl RD)), (zruleYear, .inl (cI, 30, .inl RY)), (zruleShare, .inl (cI, 30, .inl RS)), (zstate, .inl (cI, 4000, .inl u.2.2.2.2.1)), (zholder, .inl (cI, 4000, .inl HO)), (zusedIn, .inl (cI, 4000, .inl u.2.2.2.2.2))]) (fun (r : Int32) (u : (Nat) × (Nat → Int32) × (Nat → Int32) × (Nat → Int32) × (Nat → Int32) × (Nat → Int32)) => (now < 20 ∧ u.1 = now + 1 ∧ (u.2.2.2.2.1, u.2.2.2.2.2, u.2.1, u.2.2.1, u.2.2.2.1, r) = enM RD HO k now (rAt 30 (pS RS 100 1000) (inF RY (nI now) rk)) (ST, UI, CO, DE, FI, 0) wk) ∨ (¬ now < 20 ∧ r = -1 ∧ u.1 = now ∧ u.2.2.2.2.1 = ST ∧ u.2.2.2.2.2 = UI ∧ u.2.1 = CO ∧ u.2.2.1 = DE ∧ u.2.2.2.1 = FI)) := by
  refine fx_CI.of (ws' := (wsX9_end).tail) cX9_end 7 (by decide) rfl (Nat.le_of_ble_eq_true rfl) ?_
  intro zp ze zs zm za zb zt zc zA ls zQ hQ hC hr hlk hA hH hl
  have zx := hC.1.1
  have zy := hC.1.2.1
  have hl : lv_has ls 7 [(0, .ref h)] := hl
  refine lv_aload_n zx zy dX9_end_0 rfl (lv_at hl 0 rfl) ?_
  refine fx_get (C := RX9) (T := TX9) (N := 34) hC (fun _ h => List.mem_cons_of_mem _ (List.mem_append_right _ h)) hH 0 rfl rfl 0 (by decide) (by decide +kernel) rfl dX9_end_1 ?_
  refine lv_bipush (v := 20) zx zy dX9_end_4 (by decide) ?_
  refine lv_icmp_ne (tgt := 11) zx zy dX9_end_6 (by decide) (fun c6 => ?_) (fun c6 => ?_)
  · skip
    have hn20 : now < 20 := Nat.lt_of_le_of_ne hnow (fun e => c6 (by rw [e]; rfl))
    refine lv_aload_n zx zy dX9_end_11 rfl (lv_at hl 0 rfl) ?_
    refine lv_aload_n zx zy dX9_end_12 rfl (lv_at hl 0 rfl) ?_
    refine fx_get (C := RX9) (T := TX9) (N := 34) hC (fun _ h => List.mem_cons_of_mem _ (List.mem_append_right _ h)) hH 0 rfl rfl 0 (by decide) (by decide +kernel) rfl dX9_end_13 ?_
    refine lv_bipush (v := 100) zx zy dX9_end_16 (by decide) ?_
    refine lv_sipush (v := 1000) zx zy dX9_end_18 (by decide) ?_
    refine fx_cVi (n := 3) (As := [.int (nI now), .int 100, .int 1000]) (b := h) (rest := []) (fun (u : Unit) => [(h, .inr (9, [.int (nI now), .int (nI wk), .ref zcoins, .ref zdebt, .ref zfines, .ref zreading, .int (nI rk), .ref zruleYear, .ref zruleWhat, .ref zruleShare, .int (nI k), .ref zstate, .ref zholder, .ref zyearOf, .ref zusedIn, .ref zprojectOf, .ref zwent, .int ii, .int (nI bk), .ref zbidWorks, .ref zbidMany, .ref zbidPrice, .int ac, .int (nI pj), .ref zisFalse, .ref zcutMany, .ref ztonnes, .ref zcosts, .ref zgiven, .ref zcutOff, .ref zgot, .ref zcutsOf, .int sm, .int mg])), (zcoins, .inl (cI, 10, .inl CO)), (zdebt, .inl (cI, 10, .inl DE)), (zfines, .inl (cI, 10, .inl FI)), (zreading, .inl (cI, 800, .inl RD)), (zruleYear, .inl (cI, 30, .inl RY)), (zruleShare, .inl (cI, 30, .inl RS)), (zstate, .inl (cI, 4000, .inl ST)), (zholder, .inl (cI, 4000, .inl HO)), (zusedIn, .inl (cI, 4000, .inl UI))]) hC hA hH (k_X9_partOf l D cI cZ h zcoins zdebt zfines zreading zruleYear zruleWhat zruleShare zstate zholder zyearOf zusedIn zprojectOf zwent zbidWorks zbidMany zbidPrice zisFalse zcutMany ztonnes zcosts zgiven zcutOff zgot zcutsOf now wk rk k ii bk ac pj sm mg RY RS (nI now) 100 1000 (by first | assumption | omega) (by decide) (by decide)) [0, 5, 6] [1, 2, 3, 4, 7, 8, 9] [7, 0, 1, 2, 3, 8, 9, 4, 5, 6] [(zcoins, .inl (cI, 10, .inl CO)), (zdebt, .inl (cI, 10, .inl DE)), (zfines, .inl (cI, 10, .inl FI)), (zreading, .inl (cI, 800, .inl RD)), (zstate, .inl (cI, 4000, .inl ST)), (zholder, .inl (cI, 4000, .inl HO)), (zusedIn, .inl (cI, 4000, .inl UI))] rfl rfl (by decide) (by decide) (fun _ => rfl) rfl gX9_end_X9_partOf (by decide +kernel) ⟨Nat.le_of_ble_eq_true rfl, Nat.le_of_ble_eq_true rfl⟩ 0 rfl rfl rfl rfl rfl hl.1 (Nat.le_of_ble_eq_true rfl) ⟨Nat.le_of_ble_eq_true rfl, Nat.le_of_ble_eq_true rfl⟩ dX9_end_21 (fun r1 u H locs hw21 hH => ?_)
    obtain rfl : r1 = rAt 30 (pS RS 100 1000) (inF RY (nI now) rk) := hw21
    have hH := (hH : fx_H zA zs.heap H locs D [(h, .inr (9, [.int (nI now), .int (nI wk), .ref zcoins, .ref zdebt, .ref zfines, .ref zreading, .int (nI rk), .ref zruleYear, .ref zruleWhat, .ref zruleShare, .int (nI k), .ref zstate, .ref zholder, .ref zyearOf, .ref zusedIn, .ref zprojectOf, .ref zwent, .int ii, .int (nI bk), .ref zbidWorks, .ref zbidMany, .ref zbidPrice, .int ac, .int (nI pj), .ref zisFalse, .ref zcutMany, .ref ztonnes, .ref zcosts, .ref zgiven, .ref zcutOff, .ref zgot, .ref zcutsOf, .int sm, .int mg])), (zcoins, .inl (cI, 10, .inl CO)), (zdebt, .inl (cI, 10, .inl DE)), (zfines, .inl (cI, 10, .inl FI)), (zreading, .inl (cI, 800, .inl RD)), (zruleYear, .inl (cI, 30, .inl RY)), (zruleShare, .inl (cI, 30, .inl RS)), (zstate, .inl (cI, 4000, .inl ST)), (zholder, .inl (cI, 4000, .inl HO)), (zusedIn, .inl (cI, 4000, .inl UI))])
    refine lv_istore_n (lv' := [(1, .int (rAt 30 (pS RS 100 1000) (inF RY (nI now) rk))), (0, .ref h)]) zx zy dX9_end_24 rfl hl (by decide) rfl (fun ls hl => ?_)
    refine lv_iconst (v := 0) zx zy dX9_end_25 (by decide) ?_
    refine lv_istore_n (lv' := [(2, .int 0), (1, .int (rAt 30 (pS RS 100 1000) (inF RY (nI now) rk))), (0, .ref h)]) zx zy dX9_end_26 rfl hl (by decide) rfl (fun ls hl => ?_)
    refine lv_iconst (v := 0) zx zy dX9_end_27 (by decide) ?_
    refine lv_topi (fun v2 ev2 => ?_)
    obtain rfl : v2 = nI 0 := ev2.trans (rfl)
    refine lv_istore_n (lv' := [(3, .int (nI 0)), (2, .int 0), (1, .int (rAt 30 (pS RS 100 1000) (inF RY (nI now) rk))), (0, .ref h)]) zx zy dX9_end_28 rfl hl (by decide) rfl (fun ls hl => ?_)
    have L29 : ∀ (fu : Nat) (w : Nat) (lk : Int32) (st : Nat → Int32) (ui : Nat → Int32) (co : Nat → Int32) (de : Nat → Int32) (fn : Nat → Int32) (hw : w ≤ wk) (hE : (st, ui, co, de, fn, lk) = enM RD HO k now (rAt 30 (pS RS 100 1000) (inF RY (nI now) rk)) (ST, UI, CO, DE, FI, 0) w) (hde : ∀ j, w ≤ j → de j = DE j) (H : Heap) (locs : List Loc) (ls : Array Slot), wk - w < fu → fx_H zA zs.heap H locs D [(h, .inr (9, [.int (nI now), .int (nI wk), .ref zcoins, .ref zdebt, .ref zfines, .ref zreading, .int (nI rk), .ref zruleYear, .ref zruleWhat, .ref zruleShare, .int (nI k), .ref zstate, .ref zholder, .ref zyearOf, .ref zusedIn, .ref zprojectOf, .ref zwent, .int ii, .int (nI bk), .ref zbidWorks, .ref zbidMany, .ref zbidPrice, .int ac, .int (nI pj), .ref zisFalse, .ref zcutMany, .ref ztonnes, .ref zcosts, .ref zgiven, .ref zcutOff, .ref zgot, .ref zcutsOf, .int sm, .int mg])), (zcoins, .inl (cI, 10, .inl co)), (zdebt, .inl (cI, 10, .inl de)), (zfines, .inl (cI, 10, .inl fn)), (zreading, .inl (cI, 800, .inl RD)), (zruleYear, .inl (cI, 30, .inl RY)), (zruleShare, .inl (cI, 30, .inl RS)), (zstate, .inl (cI, 4000, .inl st)), (zholder, .inl (cI, 4000, .inl HO)), (zusedIn, .inl (cI, 4000, .inl ui))] → lv_has ls 7 [(0, .ref h), (1, .int (rAt 30 (pS RS 100 1000) (inF RY (nI now) rk))), (2, .int lk), (3, .int (nI w))] → W zp l ze ({ frames := 3, cells := 0, slots := 0, locals := 70 }) zs zm za zb zt zc H locs (0) (0) zQ (F0 zm 29 ls []) := by
      intro fu
      induction fu with
      | zero => intro w lk st ui co de fn hw hE hde H locs ls hfu; exact absurd hfu (Nat.not_lt_zero _)
      | succ fu ih29 =>
        intro w lk st ui co de fn hw hE hde H locs ls hfu29 hH hl
        refine lv_iload_n zx zy dX9_end_29 rfl (lv_at hl 3 rfl) ?_
        refine lv_aload_n zx zy dX9_end_30 rfl (lv_at hl 0 rfl) ?_
        refine fx_get (C := RX9) (T := TX9) (N := 34) hC (fun _ h => List.mem_cons_of_mem _ (List.mem_append_right _ h)) hH 0 rfl rfl 1 (by decide) (by decide +kernel) rfl dX9_end_31 ?_
        refine lv_icmp_ge (tgt := 146) zx zy dX9_end_34 (by decide) (fun c34 => ?_) (fun c34 => ?_)
        · skip
          have hww : w = wk := Nat.le_antisymm hw (fx_le_of c34 (by omega) (by omega))
          refine lv_aload_n zx zy dX9_end_146 rfl (lv_at hl 0 rfl) ?_
          refine lv_dup zx zy dX9_end_147 rfl ?_
          refine fx_get (C := RX9) (T := TX9) (N := 34) hC (fun _ h => List.mem_cons_of_mem _ (List.mem_append_right _ h)) hH 0 rfl rfl 0 (by decide) (by decide +kernel) rfl dX9_end_148 ?_
          refine lv_iconst (v := 1) zx zy dX9_end_151 (by decide) ?_
          refine lv_iadd zx zy dX9_end_152 ?_
          refine lv_topi (fun v3 ev3 => ?_)
          obtain rfl : v3 = nI (now + 1) := ev3.trans (nI_1 now)
          refine fx_put (C := RX9) (T := TX9) (N := 34) (ty := .int) (ws2 := [(h, .inr (9, [.int (nI (now + 1)), .int (nI wk), .ref zcoins, .ref zdebt, .ref zfines, .ref zreading, .int (nI rk), .ref zruleYear, .ref zruleWhat, .ref zruleShare, .int (nI k), .ref zstate, .ref zholder, .ref zyearOf, .ref zusedIn, .ref zprojectOf, .ref zwent, .int ii, .int (nI bk), .ref zbidWorks, .ref zbidMany, .ref zbidPrice, .int ac, .int (nI pj), .ref zisFalse, .ref zcutMany, .ref ztonnes, .ref zcosts, .ref zgiven, .ref zcutOff, .ref zgot, .ref zcutsOf, .int sm, .int mg])), (zcoins, .inl (cI, 10, .inl co)), (zdebt, .inl (cI, 10, .inl de)), (zfines, .inl (cI, 10, .inl fn)), (zreading, .inl (cI, 800, .inl RD)), (zruleYear, .inl (cI, 30, .inl RY)), (zruleShare, .inl (cI, 30, .inl RS)), (zstate, .inl (cI, 4000, .inl st)), (zholder, .inl (cI, 4000, .inl HO)), (zusedIn, .inl (cI, 4000, .inl ui))]) hC (fun _ h => List.mem_cons_of_mem _ (List.mem_append_right _ h)) tyX9_ok nmX9 hH 0 rfl rfl 0 (by decide) (by decide +kernel) rfl rfl rfl rfl (Nat.le_of_ble_eq_true rfl) rfl dX9_end_153 (fun H locs hH => ?_)
          refine lv_iload_n zx zy dX9_end_156 rfl (lv_at hl 2 rfl) ?_
          exact fx_iret (v := lk) hQ hC hr hlk hH dX9_end_157 rfl (Nat.le_of_ble_eq_true rfl) (Nat.le_of_ble_eq_true rfl) (((now + 1), co, de, fn, st, ui)) rfl (Or.inl ⟨hn20, rfl, by rw [← hww]; exact hE⟩)
        · skip
          have hlt : w < wk := fx_lt_of c34 (by omega)
          obtain ⟨nd, hndB, hnd1⟩ := hnd hn20 w hlt
          have hnd2 : fouV RD w now + de w = nI nd := by rw [hde w (Nat.le_refl _)]; exact hnd1
          have hcl := cntP_le (hW st HO (w + 1)) k
          refine lv_aload_n zx zy dX9_end_37 rfl (lv_at hl 0 rfl) ?_
          refine lv_iload_n zx zy dX9_end_38 rfl (lv_at hl 3 rfl) ?_
          refine lv_aload_n zx zy dX9_end_39 rfl (lv_at hl 0 rfl) ?_
          refine fx_get (C := RX9) (T := TX9) (N := 34) hC (fun _ h => List.mem_cons_of_mem _ (List.mem_append_right _ h)) hH 0 rfl rfl 0 (by decide) (by decide +kernel) rfl dX9_end_40 ?_
          refine fx_cVi (n := 2) (As := [.int (nI w), .int (nI now)]) (b := h) (rest := []) (fun (u : Unit) => [(h, .inr (9, [.int (nI now), .int (nI wk), .ref zcoins, .ref zdebt, .ref zfines, .ref zreading, .int (nI rk), .ref zruleYear, .ref zruleWhat, .ref zruleShare, .int (nI k), .ref zstate, .ref zholder, .ref zyearOf, .ref zusedIn, .ref zprojectOf, .ref zwent, .int ii, .int (nI bk), .ref zbidWorks, .ref zbidMany, .ref zbidPrice, .int ac, .int (nI pj), .ref zisFalse, .ref zcutMany, .ref ztonnes, .ref zcosts, .ref zgiven, .ref zcutOff, .ref zgot, .ref zcutsOf, .int sm, .int mg])), (zcoins, .inl (cI, 10, .inl co)), (zdebt, .inl (cI, 10, .inl de)), (zfines, .inl (cI, 10, .inl fn)), (zreading, .inl (cI, 800, .inl RD)), (zruleYear, .inl (cI, 30, .inl RY)), (zruleShare, .inl (cI, 30, .inl RS)), (zstate, .inl (cI, 4000, .inl st)), (zholder, .inl (cI, 4000, .inl HO)), (zusedIn, .inl (cI, 4000, .inl ui))]) hC hA hH (k_X9_fouled_f l D cI cZ h zcoins zdebt zfines zreading zruleYear zruleWhat zruleShare zstate zholder zyearOf zusedIn zprojectOf zwent zbidWorks zbidMany zbidPrice zisFalse zcutMany ztonnes zcosts zgiven zcutOff zgot zcutsOf now wk rk k ii bk ac pj sm mg RD w now (by first | assumption | omega) (by first | assumption | omega) (by first | assumption | omega) (by first | assumption | omega)) [0, 4] [1, 2, 3, 5, 6, 7, 8, 9] [8, 0, 1, 2, 9, 3, 4, 5, 6, 7] [(zcoins, .inl (cI, 10, .inl co)), (zdebt, .inl (cI, 10, .inl de)), (zfines, .inl (cI, 10, .inl fn)), (zruleYear, .inl (cI, 30, .inl RY)), (zruleShare, .inl (cI, 30, .inl RS)), (zstate, .inl (cI, 4000, .inl st)), (zholder, .inl (cI, 4000, .inl HO)), (zusedIn, .inl (cI, 4000, .inl ui))] rfl rfl (by decide) (by decide) (fun _ => rfl) rfl gX9_end_X9_fouled (by decide +kernel) ⟨Nat.le_of_ble_eq_true rfl, Nat.le_of_ble_eq_true rfl⟩ 0 rfl rfl rfl rfl rfl hl.1 (Nat.le_of_ble_eq_true rfl) ⟨Nat.le_of_ble_eq_true rfl, Nat.le_of_ble_eq_true rfl⟩ dX9_end_43 (fun r4 u H locs hw43 hH => ?_)
          obtain rfl : r4 = fouV RD w now := hw43
          have hH := (hH : fx_H zA zs.heap H locs D [(h, .inr (9, [.int (nI now), .int (nI wk), .ref zcoins, .ref zdebt, .ref zfines, .ref zreading, .int (nI rk), .ref zruleYear, .ref zruleWhat, .ref zruleShare, .int (nI k), .ref zstate, .ref zholder, .ref zyearOf, .ref zusedIn, .ref zprojectOf, .ref zwent, .int ii, .int (nI bk), .ref zbidWorks, .ref zbidMany, .ref zbidPrice, .int ac, .int (nI pj), .ref zisFalse, .ref zcutMany, .ref ztonnes, .ref zcosts, .ref zgiven, .ref zcutOff, .ref zgot, .ref zcutsOf, .int sm, .int mg])), (zcoins, .inl (cI, 10, .inl co)), (zdebt, .inl (cI, 10, .inl de)), (zfines, .inl (cI, 10, .inl fn)), (zreading, .inl (cI, 800, .inl RD)), (zruleYear, .inl (cI, 30, .inl RY)), (zruleShare, .inl (cI, 30, .inl RS)), (zstate, .inl (cI, 4000, .inl st)), (zholder, .inl (cI, 4000, .inl HO)), (zusedIn, .inl (cI, 4000, .inl ui))])
          refine lv_aload_n zx zy dX9_end_46 rfl (lv_at hl 0 rfl) ?_
          refine fx_get (C := RX9) (T := TX9) (N := 34) hC (fun _ h => List.mem_cons_of_mem _ (List.mem_append_right _ h)) hH 0 rfl rfl 3 (by decide) (by decide +kernel) rfl dX9_end_47 ?_
          refine lv_iload_n zx zy dX9_end_50 rfl (lv_at hl 3 rfl) ?_
          refine fx_ild hC hH 2 rfl (vp_in_nI (by omega) (by omega)) dX9_end_51 ?_
          refine lv_topi (fun v5 ev5 => ?_)
          obtain rfl : v5 = de w := ev5.trans (congrArg de (nI_clamp (by omega)))
          refine lv_iadd zx zy dX9_end_52 ?_
          refine lv_topi (fun v6 ev6 => ?_)
          obtain rfl : v6 = nI nd := ev6.trans (hnd2)
          refine lv_istore (lv' := [(4, .int (nI nd)), (0, .ref h), (1, .int (rAt 30 (pS RS 100 1000) (inF RY (nI now) rk))), (2, .int lk), (3, .int (nI w))]) zx zy dX9_end_53 hl (by decide) rfl (fun ls hl => ?_)
          refine lv_aload_n zx zy dX9_end_55 rfl (lv_at hl 1 rfl) ?_
          refine lv_iload_n zx zy dX9_end_56 rfl (lv_at hl 4 rfl) ?_
          refine fx_cVi (n := 1) (As := [.int (nI w)]) (b := h) (rest := []) (fun (u : Unit) => [(h, .inr (9, [.int (nI now), .int (nI wk), .ref zcoins, .ref zdebt, .ref zfines, .ref zreading, .int (nI rk), .ref zruleYear, .ref zruleWhat, .ref zruleShare, .int (nI k), .ref zstate, .ref zholder, .ref zyearOf, .ref zusedIn, .ref zprojectOf, .ref zwent, .int ii, .int (nI bk), .ref zbidWorks, .ref zbidMany, .ref zbidPrice, .int ac, .int (nI pj), .ref zisFalse, .ref zcutMany, .ref ztonnes, .ref zcosts, .ref zgiven, .ref zcutOff, .ref zgot, .ref zcutsOf, .int sm, .int mg])), (zcoins, .inl (cI, 10, .inl co)), (zdebt, .inl (cI, 10, .inl de)), (zfines, .inl (cI, 10, .inl fn)), (zreading, .inl (cI, 800, .inl RD)), (zruleYear, .inl (cI, 30, .inl RY)), (zruleShare, .inl (cI, 30, .inl RS)), (zstate, .inl (cI, 4000, .inl st)), (zholder, .inl (cI, 4000, .inl HO)), (zusedIn, .inl (cI, 4000, .inl ui))]) hC hA hH (k_X9_holds l D cI cZ h zcoins zdebt zfines zreading zruleYear zruleWhat zruleShare zstate zholder zyearOf zusedIn zprojectOf zwent zbidWorks zbidMany zbidPrice zisFalse zcutMany ztonnes zcosts zgiven zcutOff zgot zcutsOf now wk rk k ii bk ac pj sm mg st HO (nI w) (w + 1) (nI_1 w) (by omega) (by first | assumption | omega)) [0, 7, 8] [1, 2, 3, 4, 5, 6, 9] [7, 0, 1, 2, 3, 4, 5, 8, 9, 6] [(zcoins, .inl (cI, 10, .inl co)), (zdebt, .inl (cI, 10, .inl de)), (zfines, .inl (cI, 10, .inl fn)), (zreading, .inl (cI, 800, .inl RD)), (zruleYear, .inl (cI, 30, .inl RY)), (zruleShare, .inl (cI, 30, .inl RS)), (zusedIn, .inl (cI, 4000, .inl ui))] rfl rfl (by decide) (by decide) (fun _ => rfl) rfl gX9_end_X9_holds (by decide +kernel) ⟨Nat.le_of_ble_eq_true rfl, Nat.le_of_ble_eq_true rfl⟩ 0 rfl rfl rfl rfl rfl hl.1 (Nat.le_of_ble_eq_true rfl) ⟨Nat.le_of_ble_eq_true rfl, Nat.le_of_ble_eq_true rfl⟩ dX9_end_57 (fun r7 u H locs hw57 hH => ?_)
          obtain rfl : r7 = nI (cntP (hW st HO (w + 1)) k) := hw57
          have hH := (hH : fx_H zA zs.heap H locs D [(h, .inr (9, [.int (nI now), .int (nI wk), .ref zcoins, .ref zdebt, .ref zfines, .ref zreading, .int (nI rk), .ref zruleYear, .ref zruleWhat, .ref zruleShare, .int (nI k), .ref zstate, .ref zholder, .ref zyearOf, .ref zusedIn, .ref zprojectOf, .ref zwent, .int ii, .int (nI bk), .ref zbidWorks, .ref zbidMany, .ref zbidPrice, .int ac, .int (nI pj), .ref zisFalse, .ref zcutMany, .ref ztonnes, .ref zcosts, .ref zgiven, .ref zcutOff, .ref zgot, .ref zcutsOf, .int sm, .int mg])), (zcoins, .inl (cI, 10, .inl co)), (zdebt, .inl (cI, 10, .inl de)), (zfines, .inl (cI, 10, .inl fn)), (zreading, .inl (cI, 800, .inl RD)), (zruleYear, .inl (cI, 30, .inl RY)), (zruleShare, .inl (cI, 30, .inl RS)), (zstate, .inl (cI, 4000, .inl st)), (zholder, .inl (cI, 4000, .inl HO)), (zusedIn, .inl (cI, 4000, .inl ui))])
          refine lv_istore (lv' := [(5, .int (nI (cntP (hW st HO (w + 1)) k))), (4, .int (nI nd)), (0, .ref h), (1, .int (rAt 30 (pS RS 100 1000) (inF RY (nI now) rk))), (2, .int lk), (3, .int (nI w))]) zx zy dX9_end_60 hl (by decide) rfl (fun ls hl => ?_)
          refine lv_iload zx zy dX9_end_62 (lv_at hl 1 rfl) ?_
          refine lv_iload zx zy dX9_end_64 (lv_at hl 0 rfl) ?_
          refine lv_icmp_ge (tgt := 74) zx zy dX9_end_66 (by decide) (fun c66 => ?_) (fun c66 => ?_)
          · skip
            have hu : uzN st HO k w nd = cntP (hW st HO (w + 1)) k := Nat.min_eq_right (fx_le_of c66 hndB (by omega))
            refine lv_iload zx zy dX9_end_74 (lv_at hl 0 rfl) ?_
            refine lv_topi (fun v8 ev8 => ?_)
            obtain rfl : v8 = nI (uzN st HO k w nd) := ev8.trans (congrArg nI hu.symm)
            refine lv_istore (lv' := [(6, .int (nI (uzN st HO k w nd))), (5, .int (nI (cntP (hW st HO (w + 1)) k))), (4, .int (nI nd)), (0, .ref h), (1, .int (rAt 30 (pS RS 100 1000) (inF RY (nI now) rk))), (2, .int lk), (3, .int (nI w))]) zx zy dX9_end_76 hl (by decide) rfl (fun ls hl => ?_)
            refine lv_aload_n zx zy dX9_end_78 rfl (lv_at hl 3 rfl) ?_
            refine lv_iload_n zx zy dX9_end_79 rfl (lv_at hl 6 rfl) ?_
            refine lv_iload zx zy dX9_end_80 (lv_at hl 0 rfl) ?_
            refine lv_iconst (v := 1) zx zy dX9_end_82 (by decide) ?_
            refine fx_cVv (n := 3) (As := [.int (nI w), .int (nI (uzN st HO k w nd)), .int 1]) (b := h) (rest := []) (fun (u : (Nat → Int32) × (Nat → Int32)) => [(h, .inr (9, [.int (nI now), .int (nI wk), .ref zcoins, .ref zdebt, .ref zfines, .ref zreading, .int (nI rk), .ref zruleYear, .ref zruleWhat, .ref zruleShare, .int (nI k), .ref zstate, .ref zholder, .ref zyearOf, .ref zusedIn, .ref zprojectOf, .ref zwent, .int ii, .int (nI bk), .ref zbidWorks, .ref zbidMany, .ref zbidPrice, .int ac, .int (nI pj), .ref zisFalse, .ref zcutMany, .ref ztonnes, .ref zcosts, .ref zgiven, .ref zcutOff, .ref zgot, .ref zcutsOf, .int sm, .int mg])), (zcoins, .inl (cI, 10, .inl co)), (zdebt, .inl (cI, 10, .inl de)), (zfines, .inl (cI, 10, .inl fn)), (zreading, .inl (cI, 800, .inl RD)), (zruleYear, .inl (cI, 30, .inl RY)), (zruleShare, .inl (cI, 30, .inl RS)), (zstate, .inl (cI, 4000, .inl u.1)), (zholder, .inl (cI, 4000, .inl HO)), (zusedIn, .inl (cI, 4000, .inl u.2))]) hC hA hH (k_X9_ends_1 l D cI cZ h zcoins zdebt zfines zreading zruleYear zruleWhat zruleShare zstate zholder zyearOf zusedIn zprojectOf zwent zbidWorks zbidMany zbidPrice zisFalse zcutMany ztonnes zcosts zgiven zcutOff zgot zcutsOf now wk rk k ii bk ac pj sm mg st HO ui (nI w) (w + 1) (nI_1 w) (by omega) (uzN st HO k w nd) (by first | assumption | omega) (Nat.min_le_right _ _)) [0, 7, 8, 9] [1, 2, 3, 4, 5, 6] [6, 0, 1, 2, 3, 4, 5, 7, 8, 9] [(zcoins, .inl (cI, 10, .inl co)), (zdebt, .inl (cI, 10, .inl de)), (zfines, .inl (cI, 10, .inl fn)), (zreading, .inl (cI, 800, .inl RD)), (zruleYear, .inl (cI, 30, .inl RY)), (zruleShare, .inl (cI, 30, .inl RS))] rfl rfl (by decide) (by decide) (fun _ => rfl) rfl gX9_end_X9_ends (by decide +kernel) ⟨Nat.le_of_ble_eq_true rfl, Nat.le_of_ble_eq_true rfl⟩ 0 rfl rfl rfl rfl rfl hl.1 (Nat.le_of_ble_eq_true rfl) ⟨Nat.le_of_ble_eq_true rfl, Nat.le_of_ble_eq_true rfl⟩ dX9_end_83 (fun u H locs hw83 hH => ?_)
            obtain ⟨u10, u11⟩ := u
            obtain ⟨e12, e13⟩ := hw83
            obtain rfl : u10 = (usI HO k (w + 1) (nI now) (uzN st HO k w nd) st ui).1 := e12
            obtain rfl : u11 = (usI HO k (w + 1) (nI now) (uzN st HO k w nd) st ui).2 := e13
            have hH := (hH : fx_H zA zs.heap H locs D [(h, .inr (9, [.int (nI now), .int (nI wk), .ref zcoins, .ref zdebt, .ref zfines, .ref zreading, .int (nI rk), .ref zruleYear, .ref zruleWhat, .ref zruleShare, .int (nI k), .ref zstate, .ref zholder, .ref zyearOf, .ref zusedIn, .ref zprojectOf, .ref zwent, .int ii, .int (nI bk), .ref zbidWorks, .ref zbidMany, .ref zbidPrice, .int ac, .int (nI pj), .ref zisFalse, .ref zcutMany, .ref ztonnes, .ref zcosts, .ref zgiven, .ref zcutOff, .ref zgot, .ref zcutsOf, .int sm, .int mg])), (zcoins, .inl (cI, 10, .inl co)), (zdebt, .inl (cI, 10, .inl de)), (zfines, .inl (cI, 10, .inl fn)), (zreading, .inl (cI, 800, .inl RD)), (zruleYear, .inl (cI, 30, .inl RY)), (zruleShare, .inl (cI, 30, .inl RS)), (zstate, .inl (cI, 4000, .inl ((usI HO k (w + 1) (nI now) (uzN st HO k w nd) st ui).1))), (zholder, .inl (cI, 4000, .inl HO)), (zusedIn, .inl (cI, 4000, .inl ((usI HO k (w + 1) (nI now) (uzN st HO k w nd) st ui).2)))])
            refine lv_aload_n zx zy dX9_end_86 rfl (lv_at hl 3 rfl) ?_
            refine fx_get (C := RX9) (T := TX9) (N := 34) hC (fun _ h => List.mem_cons_of_mem _ (List.mem_append_right _ h)) hH 0 rfl rfl 3 (by decide) (by decide +kernel) rfl dX9_end_87 ?_
            refine lv_iload_n zx zy dX9_end_90 rfl (lv_at hl 6 rfl) ?_
            refine lv_iload zx zy dX9_end_91 (lv_at hl 2 rfl) ?_
            refine lv_iload zx zy dX9_end_93 (lv_at hl 0 rfl) ?_
            refine lv_isub zx zy dX9_end_95 ?_
            refine lv_topi (fun v14 ev14 => ?_)
            obtain rfl : v14 = nI (nd - uzN st HO k w nd) := ev14.trans (pk_sub (Nat.min_le_left _ _))
            refine fx_ist (ws2 := [(h, .inr (9, [.int (nI now), .int (nI wk), .ref zcoins, .ref zdebt, .ref zfines, .ref zreading, .int (nI rk), .ref zruleYear, .ref zruleWhat, .ref zruleShare, .int (nI k), .ref zstate, .ref zholder, .ref zyearOf, .ref zusedIn, .ref zprojectOf, .ref zwent, .int ii, .int (nI bk), .ref zbidWorks, .ref zbidMany, .ref zbidPrice, .int ac, .int (nI pj), .ref zisFalse, .ref zcutMany, .ref ztonnes, .ref zcosts, .ref zgiven, .ref zcutOff, .ref zgot, .ref zcutsOf, .int sm, .int mg])), (zcoins, .inl (cI, 10, .inl co)), (zdebt, .inl (cI, 10, .inl (upd de (nI w).toNatClampNeg (nI (nd - uzN st HO k w nd))))), (zfines, .inl (cI, 10, .inl fn)), (zreading, .inl (cI, 800, .inl RD)), (zruleYear, .inl (cI, 30, .inl RY)), (zruleShare, .inl (cI, 30, .inl RS)), (zstate, .inl (cI, 4000, .inl ((usI HO k (w + 1) (nI now) (uzN st HO k w nd) st ui).1))), (zholder, .inl (cI, 4000, .inl HO)), (zusedIn, .inl (cI, 4000, .inl ((usI HO k (w + 1) (nI now) (uzN st HO k w nd) st ui).2)))]) hC hH 2 rfl (vp_in_nI (by omega) (by omega)) rfl dX9_end_96 (fun H locs hH => ?_)
            rw [show (upd de (nI w).toNatClampNeg (nI (nd - uzN st HO k w nd)) : Nat → Int32) = upd de w (nI (nd - uzN st HO k w nd)) from (by rw [nI_clamp (by omega)])] at hH
            refine lv_aload_n zx zy dX9_end_97 rfl (lv_at hl 3 rfl) ?_
            refine fx_get (C := RX9) (T := TX9) (N := 34) hC (fun _ h => List.mem_cons_of_mem _ (List.mem_append_right _ h)) hH 0 rfl rfl 2 (by decide) (by decide +kernel) rfl dX9_end_98 ?_
            refine lv_iload_n zx zy dX9_end_101 rfl (lv_at hl 6 rfl) ?_
            refine lv_dup2_11 zx zy dX9_end_102 rfl rfl ?_
            refine fx_ild hC hH 1 rfl (vp_in_nI (by omega) (by omega)) dX9_end_103 ?_
            refine lv_topi (fun v15 ev15 => ?_)
            obtain rfl : v15 = co w := ev15.trans (congrArg co (nI_clamp (by omega)))
            refine lv_aload_n zx zy dX9_end_104 rfl (lv_at hl 3 rfl) ?_
            refine fx_get (C := RX9) (T := TX9) (N := 34) hC (fun _ h => List.mem_cons_of_mem _ (List.mem_append_right _ h)) hH 0 rfl rfl 3 (by decide) (by decide +kernel) rfl dX9_end_105 ?_
            refine lv_iload_n zx zy dX9_end_108 rfl (lv_at hl 6 rfl) ?_
            refine fx_ild hC hH 2 rfl (vp_in_nI (by omega) (by omega)) dX9_end_109 ?_
            refine lv_topi (fun v16 ev16 => ?_)
            obtain rfl : v16 = nI (nd - uzN st HO k w nd) := ev16.trans ((congrArg (upd de w (nI (nd - uzN st HO k w nd))) (nI_clamp (by omega))).trans pk_us)
            refine lv_iload_n zx zy dX9_end_110 rfl (lv_at hl 4 rfl) ?_
            refine lv_imul zx zy dX9_end_111 ?_
            refine lv_isub zx zy dX9_end_112 ?_
            refine fx_ist (ws2 := [(h, .inr (9, [.int (nI now), .int (nI wk), .ref zcoins, .ref zdebt, .ref zfines, .ref zreading, .int (nI rk), .ref zruleYear, .ref zruleWhat, .ref zruleShare, .int (nI k), .ref zstate, .ref zholder, .ref zyearOf, .ref zusedIn, .ref zprojectOf, .ref zwent, .int ii, .int (nI bk), .ref zbidWorks, .ref zbidMany, .ref zbidPrice, .int ac, .int (nI pj), .ref zisFalse, .ref zcutMany, .ref ztonnes, .ref zcosts, .ref zgiven, .ref zcutOff, .ref zgot, .ref zcutsOf, .int sm, .int mg])), (zcoins, .inl (cI, 10, .inl (upd co (nI w).toNatClampNeg ((co w) - ((nI (nd - uzN st HO k w nd)) * (rAt 30 (pS RS 100 1000) (inF RY (nI now) rk))))))), (zdebt, .inl (cI, 10, .inl (upd de w (nI (nd - uzN st HO k w nd))))), (zfines, .inl (cI, 10, .inl fn)), (zreading, .inl (cI, 800, .inl RD)), (zruleYear, .inl (cI, 30, .inl RY)), (zruleShare, .inl (cI, 30, .inl RS)), (zstate, .inl (cI, 4000, .inl ((usI HO k (w + 1) (nI now) (uzN st HO k w nd) st ui).1))), (zholder, .inl (cI, 4000, .inl HO)), (zusedIn, .inl (cI, 4000, .inl ((usI HO k (w + 1) (nI now) (uzN st HO k w nd) st ui).2)))]) hC hH 1 rfl (vp_in_nI (by omega) (by omega)) rfl dX9_end_113 (fun H locs hH => ?_)
            rw [show (upd co (nI w).toNatClampNeg ((co w) - ((nI (nd - uzN st HO k w nd)) * (rAt 30 (pS RS 100 1000) (inF RY (nI now) rk)))) : Nat → Int32) = upd co w ((co w) - ((nI (nd - uzN st HO k w nd)) * (rAt 30 (pS RS 100 1000) (inF RY (nI now) rk)))) from (by rw [nI_clamp (by omega)])] at hH
            refine lv_aload_n zx zy dX9_end_114 rfl (lv_at hl 3 rfl) ?_
            refine fx_get (C := RX9) (T := TX9) (N := 34) hC (fun _ h => List.mem_cons_of_mem _ (List.mem_append_right _ h)) hH 0 rfl rfl 4 (by decide) (by decide +kernel) rfl dX9_end_115 ?_
            refine lv_iload_n zx zy dX9_end_118 rfl (lv_at hl 6 rfl) ?_
            refine lv_dup2_11 zx zy dX9_end_119 rfl rfl ?_
            refine fx_ild hC hH 3 rfl (vp_in_nI (by omega) (by omega)) dX9_end_120 ?_
            refine lv_topi (fun v17 ev17 => ?_)
            obtain rfl : v17 = fn w := ev17.trans (congrArg fn (nI_clamp (by omega)))
            refine lv_aload_n zx zy dX9_end_121 rfl (lv_at hl 3 rfl) ?_
            refine fx_get (C := RX9) (T := TX9) (N := 34) hC (fun _ h => List.mem_cons_of_mem _ (List.mem_append_right _ h)) hH 0 rfl rfl 3 (by decide) (by decide +kernel) rfl dX9_end_122 ?_
            refine lv_iload_n zx zy dX9_end_125 rfl (lv_at hl 6 rfl) ?_
            refine fx_ild hC hH 2 rfl (vp_in_nI (by omega) (by omega)) dX9_end_126 ?_
            refine lv_topi (fun v18 ev18 => ?_)
            obtain rfl : v18 = nI (nd - uzN st HO k w nd) := ev18.trans ((congrArg (upd de w (nI (nd - uzN st HO k w nd))) (nI_clamp (by omega))).trans pk_us)
            refine lv_iload_n zx zy dX9_end_127 rfl (lv_at hl 4 rfl) ?_
            refine lv_imul zx zy dX9_end_128 ?_
            refine lv_iadd zx zy dX9_end_129 ?_
            refine fx_ist (ws2 := [(h, .inr (9, [.int (nI now), .int (nI wk), .ref zcoins, .ref zdebt, .ref zfines, .ref zreading, .int (nI rk), .ref zruleYear, .ref zruleWhat, .ref zruleShare, .int (nI k), .ref zstate, .ref zholder, .ref zyearOf, .ref zusedIn, .ref zprojectOf, .ref zwent, .int ii, .int (nI bk), .ref zbidWorks, .ref zbidMany, .ref zbidPrice, .int ac, .int (nI pj), .ref zisFalse, .ref zcutMany, .ref ztonnes, .ref zcosts, .ref zgiven, .ref zcutOff, .ref zgot, .ref zcutsOf, .int sm, .int mg])), (zcoins, .inl (cI, 10, .inl (upd co w ((co w) - ((nI (nd - uzN st HO k w nd)) * (rAt 30 (pS RS 100 1000) (inF RY (nI now) rk))))))), (zdebt, .inl (cI, 10, .inl (upd de w (nI (nd - uzN st HO k w nd))))), (zfines, .inl (cI, 10, .inl (upd fn (nI w).toNatClampNeg ((fn w) + ((nI (nd - uzN st HO k w nd)) * (rAt 30 (pS RS 100 1000) (inF RY (nI now) rk))))))), (zreading, .inl (cI, 800, .inl RD)), (zruleYear, .inl (cI, 30, .inl RY)), (zruleShare, .inl (cI, 30, .inl RS)), (zstate, .inl (cI, 4000, .inl ((usI HO k (w + 1) (nI now) (uzN st HO k w nd) st ui).1))), (zholder, .inl (cI, 4000, .inl HO)), (zusedIn, .inl (cI, 4000, .inl ((usI HO k (w + 1) (nI now) (uzN st HO k w nd) st ui).2)))]) hC hH 3 rfl (vp_in_nI (by omega) (by omega)) rfl dX9_end_130 (fun H locs hH => ?_)
            rw [show (upd fn (nI w).toNatClampNeg ((fn w) + ((nI (nd - uzN st HO k w nd)) * (rAt 30 (pS RS 100 1000) (inF RY (nI now) rk)))) : Nat → Int32) = upd fn w ((fn w) + ((nI (nd - uzN st HO k w nd)) * (rAt 30 (pS RS 100 1000) (inF RY (nI now) rk)))) from (by rw [nI_clamp (by omega)])] at hH
            refine lv_iload_n zx zy dX9_end_131 rfl (lv_at hl 5 rfl) ?_
            refine lv_aload_n zx zy dX9_end_132 rfl (lv_at hl 3 rfl) ?_
            refine fx_get (C := RX9) (T := TX9) (N := 34) hC (fun _ h => List.mem_cons_of_mem _ (List.mem_append_right _ h)) hH 0 rfl rfl 3 (by decide) (by decide +kernel) rfl dX9_end_133 ?_
            refine lv_iload_n zx zy dX9_end_136 rfl (lv_at hl 6 rfl) ?_
            refine fx_ild hC hH 2 rfl (vp_in_nI (by omega) (by omega)) dX9_end_137 ?_
            refine lv_topi (fun v19 ev19 => ?_)
            obtain rfl : v19 = nI (nd - uzN st HO k w nd) := ev19.trans ((congrArg (upd de w (nI (nd - uzN st HO k w nd))) (nI_clamp (by omega))).trans pk_us)
            refine lv_iadd zx zy dX9_end_138 ?_
            refine lv_istore_n (lv' := [(2, .int (lk + (nI (nd - uzN st HO k w nd)))), (6, .int (nI (uzN st HO k w nd))), (5, .int (nI (cntP (hW st HO (w + 1)) k))), (4, .int (nI nd)), (0, .ref h), (1, .int (rAt 30 (pS RS 100 1000) (inF RY (nI now) rk))), (3, .int (nI w))]) zx zy dX9_end_139 rfl hl (by decide) rfl (fun ls hl => ?_)
            refine lv_iinc (v := nI (w + 1)) (lv' := [(3, .int (nI (w + 1))), (2, .int (lk + (nI (nd - uzN st HO k w nd)))), (6, .int (nI (uzN st HO k w nd))), (5, .int (nI (cntP (hW st HO (w + 1)) k))), (4, .int (nI nd)), (0, .ref h), (1, .int (rAt 30 (pS RS 100 1000) (inF RY (nI now) rk)))]) zx zy dX9_end_140 hl (k := 6) rfl (nI_1 _) (by decide) rfl (fun ls hl => ?_)
            refine lv_goto (tgt := 29) zx zy dX9_end_143 (by decide) ?_
            exact ih29 (w + 1) (lk + (nI (nd - uzN st HO k w nd))) ((usI HO k (w + 1) (nI now) (uzN st HO k w nd) st ui).1) ((usI HO k (w + 1) (nI now) (uzN st HO k w nd) st ui).2) (upd co w ((co w) - ((nI (nd - uzN st HO k w nd)) * (rAt 30 (pS RS 100 1000) (inF RY (nI now) rk))))) (upd de w (nI (nd - uzN st HO k w nd))) (upd fn w ((fn w) + ((nI (nd - uzN st HO k w nd)) * (rAt 30 (pS RS 100 1000) (inF RY (nI now) rk))))) (by first | assumption | omega) (by show _ = enMs RD HO k now _ w (enM RD HO k now (rAt 30 (pS RS 100 1000) (inF RY (nI now) rk)) (ST, UI, CO, DE, FI, 0) w); rw [← hE]; simp only [enMs]; rw [hnd2, nI_clamp hndB]) (fun j hj => (pk_un (by omega)).trans (hde j (by omega))) _ _ _ (by omega) hH (lv_sub hl [5, 6, 1, 0] rfl)
          · skip
            have hu : uzN st HO k w nd = nd := Nat.min_eq_left (Nat.le_of_lt (fx_lt_of c66 hndB))
            refine lv_iload zx zy dX9_end_69 (lv_at hl 1 rfl) ?_
            refine lv_goto (tgt := 76) zx zy dX9_end_71 (by decide) ?_
            refine lv_topi (fun v20 ev20 => ?_)
            obtain rfl : v20 = nI (uzN st HO k w nd) := ev20.trans (congrArg nI hu.symm)
            refine lv_istore (lv' := [(6, .int (nI (uzN st HO k w nd))), (5, .int (nI (cntP (hW st HO (w + 1)) k))), (4, .int (nI nd)), (0, .ref h), (1, .int (rAt 30 (pS RS 100 1000) (inF RY (nI now) rk))), (2, .int lk), (3, .int (nI w))]) zx zy dX9_end_76 hl (by decide) rfl (fun ls hl => ?_)
            refine lv_aload_n zx zy dX9_end_78 rfl (lv_at hl 3 rfl) ?_
            refine lv_iload_n zx zy dX9_end_79 rfl (lv_at hl 6 rfl) ?_
            refine lv_iload zx zy dX9_end_80 (lv_at hl 0 rfl) ?_
            refine lv_iconst (v := 1) zx zy dX9_end_82 (by decide) ?_
            refine fx_cVv (n := 3) (As := [.int (nI w), .int (nI (uzN st HO k w nd)), .int 1]) (b := h) (rest := []) (fun (u : (Nat → Int32) × (Nat → Int32)) => [(h, .inr (9, [.int (nI now), .int (nI wk), .ref zcoins, .ref zdebt, .ref zfines, .ref zreading, .int (nI rk), .ref zruleYear, .ref zruleWhat, .ref zruleShare, .int (nI k), .ref zstate, .ref zholder, .ref zyearOf, .ref zusedIn, .ref zprojectOf, .ref zwent, .int ii, .int (nI bk), .ref zbidWorks, .ref zbidMany, .ref zbidPrice, .int ac, .int (nI pj), .ref zisFalse, .ref zcutMany, .ref ztonnes, .ref zcosts, .ref zgiven, .ref zcutOff, .ref zgot, .ref zcutsOf, .int sm, .int mg])), (zcoins, .inl (cI, 10, .inl co)), (zdebt, .inl (cI, 10, .inl de)), (zfines, .inl (cI, 10, .inl fn)), (zreading, .inl (cI, 800, .inl RD)), (zruleYear, .inl (cI, 30, .inl RY)), (zruleShare, .inl (cI, 30, .inl RS)), (zstate, .inl (cI, 4000, .inl u.1)), (zholder, .inl (cI, 4000, .inl HO)), (zusedIn, .inl (cI, 4000, .inl u.2))]) hC hA hH (k_X9_ends_1 l D cI cZ h zcoins zdebt zfines zreading zruleYear zruleWhat zruleShare zstate zholder zyearOf zusedIn zprojectOf zwent zbidWorks zbidMany zbidPrice zisFalse zcutMany ztonnes zcosts zgiven zcutOff zgot zcutsOf now wk rk k ii bk ac pj sm mg st HO ui (nI w) (w + 1) (nI_1 w) (by omega) (uzN st HO k w nd) (by first | assumption | omega) (Nat.min_le_right _ _)) [0, 7, 8, 9] [1, 2, 3, 4, 5, 6] [6, 0, 1, 2, 3, 4, 5, 7, 8, 9] [(zcoins, .inl (cI, 10, .inl co)), (zdebt, .inl (cI, 10, .inl de)), (zfines, .inl (cI, 10, .inl fn)), (zreading, .inl (cI, 800, .inl RD)), (zruleYear, .inl (cI, 30, .inl RY)), (zruleShare, .inl (cI, 30, .inl RS))] rfl rfl (by decide) (by decide) (fun _ => rfl) rfl gX9_end_X9_ends (by decide +kernel) ⟨Nat.le_of_ble_eq_true rfl, Nat.le_of_ble_eq_true rfl⟩ 0 rfl rfl rfl rfl rfl hl.1 (Nat.le_of_ble_eq_true rfl) ⟨Nat.le_of_ble_eq_true rfl, Nat.le_of_ble_eq_true rfl⟩ dX9_end_83 (fun u H locs hw83 hH => ?_)
            obtain ⟨u22, u23⟩ := u
            obtain ⟨e24, e25⟩ := hw83
            obtain rfl : u22 = (usI HO k (w + 1) (nI now) (uzN st HO k w nd) st ui).1 := e24
            obtain rfl : u23 = (usI HO k (w + 1) (nI now) (uzN st HO k w nd) st ui).2 := e25
            have hH := (hH : fx_H zA zs.heap H locs D [(h, .inr (9, [.int (nI now), .int (nI wk), .ref zcoins, .ref zdebt, .ref zfines, .ref zreading, .int (nI rk), .ref zruleYear, .ref zruleWhat, .ref zruleShare, .int (nI k), .ref zstate, .ref zholder, .ref zyearOf, .ref zusedIn, .ref zprojectOf, .ref zwent, .int ii, .int (nI bk), .ref zbidWorks, .ref zbidMany, .ref zbidPrice, .int ac, .int (nI pj), .ref zisFalse, .ref zcutMany, .ref ztonnes, .ref zcosts, .ref zgiven, .ref zcutOff, .ref zgot, .ref zcutsOf, .int sm, .int mg])), (zcoins, .inl (cI, 10, .inl co)), (zdebt, .inl (cI, 10, .inl de)), (zfines, .inl (cI, 10, .inl fn)), (zreading, .inl (cI, 800, .inl RD)), (zruleYear, .inl (cI, 30, .inl RY)), (zruleShare, .inl (cI, 30, .inl RS)), (zstate, .inl (cI, 4000, .inl ((usI HO k (w + 1) (nI now) (uzN st HO k w nd) st ui).1))), (zholder, .inl (cI, 4000, .inl HO)), (zusedIn, .inl (cI, 4000, .inl ((usI HO k (w + 1) (nI now) (uzN st HO k w nd) st ui).2)))])
            refine lv_aload_n zx zy dX9_end_86 rfl (lv_at hl 3 rfl) ?_
            refine fx_get (C := RX9) (T := TX9) (N := 34) hC (fun _ h => List.mem_cons_of_mem _ (List.mem_append_right _ h)) hH 0 rfl rfl 3 (by decide) (by decide +kernel) rfl dX9_end_87 ?_
            refine lv_iload_n zx zy dX9_end_90 rfl (lv_at hl 6 rfl) ?_
            refine lv_iload zx zy dX9_end_91 (lv_at hl 2 rfl) ?_
            refine lv_iload zx zy dX9_end_93 (lv_at hl 0 rfl) ?_
            refine lv_isub zx zy dX9_end_95 ?_
            refine lv_topi (fun v26 ev26 => ?_)
            obtain rfl : v26 = nI (nd - uzN st HO k w nd) := ev26.trans (pk_sub (Nat.min_le_left _ _))
            refine fx_ist (ws2 := [(h, .inr (9, [.int (nI now), .int (nI wk), .ref zcoins, .ref zdebt, .ref zfines, .ref zreading, .int (nI rk), .ref zruleYear, .ref zruleWhat, .ref zruleShare, .int (nI k), .ref zstate, .ref zholder, .ref zyearOf, .ref zusedIn, .ref zprojectOf, .ref zwent, .int ii, .int (nI bk), .ref zbidWorks, .ref zbidMany, .ref zbidPrice, .int ac, .int (nI pj), .ref zisFalse, .ref zcutMany, .ref ztonnes, .ref zcosts, .ref zgiven, .ref zcutOff, .ref zgot, .ref zcutsOf, .int sm, .int mg])), (zcoins, .inl (cI, 10, .inl co)), (zdebt, .inl (cI, 10, .inl (upd de (nI w).toNatClampNeg (nI (nd - uzN st HO k w nd))))), (zfines, .inl (cI, 10, .inl fn)), (zreading, .inl (cI, 800, .inl RD)), (zruleYear, .inl (cI, 30, .inl RY)), (zruleShare, .inl (cI, 30, .inl RS)), (zstate, .inl (cI, 4000, .inl ((usI HO k (w + 1) (nI now) (uzN st HO k w nd) st ui).1))), (zholder, .inl (cI, 4000, .inl HO)), (zusedIn, .inl (cI, 4000, .inl ((usI HO k (w + 1) (nI now) (uzN st HO k w nd) st ui).2)))]) hC hH 2 rfl (vp_in_nI (by omega) (by omega)) rfl dX9_end_96 (fun H locs hH => ?_)
            rw [show (upd de (nI w).toNatClampNeg (nI (nd - uzN st HO k w nd)) : Nat → Int32) = upd de w (nI (nd - uzN st HO k w nd)) from (by rw [nI_clamp (by omega)])] at hH
            refine lv_aload_n zx zy dX9_end_97 rfl (lv_at hl 3 rfl) ?_
            refine fx_get (C := RX9) (T := TX9) (N := 34) hC (fun _ h => List.mem_cons_of_mem _ (List.mem_append_right _ h)) hH 0 rfl rfl 2 (by decide) (by decide +kernel) rfl dX9_end_98 ?_
            refine lv_iload_n zx zy dX9_end_101 rfl (lv_at hl 6 rfl) ?_
            refine lv_dup2_11 zx zy dX9_end_102 rfl rfl ?_
            refine fx_ild hC hH 1 rfl (vp_in_nI (by omega) (by omega)) dX9_end_103 ?_
            refine lv_topi (fun v27 ev27 => ?_)
            obtain rfl : v27 = co w := ev27.trans (congrArg co (nI_clamp (by omega)))
            refine lv_aload_n zx zy dX9_end_104 rfl (lv_at hl 3 rfl) ?_
            refine fx_get (C := RX9) (T := TX9) (N := 34) hC (fun _ h => List.mem_cons_of_mem _ (List.mem_append_right _ h)) hH 0 rfl rfl 3 (by decide) (by decide +kernel) rfl dX9_end_105 ?_
            refine lv_iload_n zx zy dX9_end_108 rfl (lv_at hl 6 rfl) ?_
            refine fx_ild hC hH 2 rfl (vp_in_nI (by omega) (by omega)) dX9_end_109 ?_
            refine lv_topi (fun v28 ev28 => ?_)
            obtain rfl : v28 = nI (nd - uzN st HO k w nd) := ev28.trans ((congrArg (upd de w (nI (nd - uzN st HO k w nd))) (nI_clamp (by omega))).trans pk_us)
            refine lv_iload_n zx zy dX9_end_110 rfl (lv_at hl 4 rfl) ?_
            refine lv_imul zx zy dX9_end_111 ?_
            refine lv_isub zx zy dX9_end_112 ?_
            refine fx_ist (ws2 := [(h, .inr (9, [.int (nI now), .int (nI wk), .ref zcoins, .ref zdebt, .ref zfines, .ref zreading, .int (nI rk), .ref zruleYear, .ref zruleWhat, .ref zruleShare, .int (nI k), .ref zstate, .ref zholder, .ref zyearOf, .ref zusedIn, .ref zprojectOf, .ref zwent, .int ii, .int (nI bk), .ref zbidWorks, .ref zbidMany, .ref zbidPrice, .int ac, .int (nI pj), .ref zisFalse, .ref zcutMany, .ref ztonnes, .ref zcosts, .ref zgiven, .ref zcutOff, .ref zgot, .ref zcutsOf, .int sm, .int mg])), (zcoins, .inl (cI, 10, .inl (upd co (nI w).toNatClampNeg ((co w) - ((nI (nd - uzN st HO k w nd)) * (rAt 30 (pS RS 100 1000) (inF RY (nI now) rk))))))), (zdebt, .inl (cI, 10, .inl (upd de w (nI (nd - uzN st HO k w nd))))), (zfines, .inl (cI, 10, .inl fn)), (zreading, .inl (cI, 800, .inl RD)), (zruleYear, .inl (cI, 30, .inl RY)), (zruleShare, .inl (cI, 30, .inl RS)), (zstate, .inl (cI, 4000, .inl ((usI HO k (w + 1) (nI now) (uzN st HO k w nd) st ui).1))), (zholder, .inl (cI, 4000, .inl HO)), (zusedIn, .inl (cI, 4000, .inl ((usI HO k (w + 1) (nI now) (uzN st HO k w nd) st ui).2)))]) hC hH 1 rfl (vp_in_nI (by omega) (by omega)) rfl dX9_end_113 (fun H locs hH => ?_)
            rw [show (upd co (nI w).toNatClampNeg ((co w) - ((nI (nd - uzN st HO k w nd)) * (rAt 30 (pS RS 100 1000) (inF RY (nI now) rk)))) : Nat → Int32) = upd co w ((co w) - ((nI (nd - uzN st HO k w nd)) * (rAt 30 (pS RS 100 1000) (inF RY (nI now) rk)))) from (by rw [nI_clamp (by omega)])] at hH
            refine lv_aload_n zx zy dX9_end_114 rfl (lv_at hl 3 rfl) ?_
            refine fx_get (C := RX9) (T := TX9) (N := 34) hC (fun _ h => List.mem_cons_of_mem _ (List.mem_append_right _ h)) hH 0 rfl rfl 4 (by decide) (by decide +kernel) rfl dX9_end_115 ?_
            refine lv_iload_n zx zy dX9_end_118 rfl (lv_at hl 6 rfl) ?_
            refine lv_dup2_11 zx zy dX9_end_119 rfl rfl ?_
            refine fx_ild hC hH 3 rfl (vp_in_nI (by omega) (by omega)) dX9_end_120 ?_
            refine lv_topi (fun v29 ev29 => ?_)
            obtain rfl : v29 = fn w := ev29.trans (congrArg fn (nI_clamp (by omega)))
            refine lv_aload_n zx zy dX9_end_121 rfl (lv_at hl 3 rfl) ?_
            refine fx_get (C := RX9) (T := TX9) (N := 34) hC (fun _ h => List.mem_cons_of_mem _ (List.mem_append_right _ h)) hH 0 rfl rfl 3 (by decide) (by decide +kernel) rfl dX9_end_122 ?_
            refine lv_iload_n zx zy dX9_end_125 rfl (lv_at hl 6 rfl) ?_
            refine fx_ild hC hH 2 rfl (vp_in_nI (by omega) (by omega)) dX9_end_126 ?_
            refine lv_topi (fun v30 ev30 => ?_)
            obtain rfl : v30 = nI (nd - uzN st HO k w nd) := ev30.trans ((congrArg (upd de w (nI (nd - uzN st HO k w nd))) (nI_clamp (by omega))).trans pk_us)
            refine lv_iload_n zx zy dX9_end_127 rfl (lv_at hl 4 rfl) ?_
            refine lv_imul zx zy dX9_end_128 ?_
            refine lv_iadd zx zy dX9_end_129 ?_
            refine fx_ist (ws2 := [(h, .inr (9, [.int (nI now), .int (nI wk), .ref zcoins, .ref zdebt, .ref zfines, .ref zreading, .int (nI rk), .ref zruleYear, .ref zruleWhat, .ref zruleShare, .int (nI k), .ref zstate, .ref zholder, .ref zyearOf, .ref zusedIn, .ref zprojectOf, .ref zwent, .int ii, .int (nI bk), .ref zbidWorks, .ref zbidMany, .ref zbidPrice, .int ac, .int (nI pj), .ref zisFalse, .ref zcutMany, .ref ztonnes, .ref zcosts, .ref zgiven, .ref zcutOff, .ref zgot, .ref zcutsOf, .int sm, .int mg])), (zcoins, .inl (cI, 10, .inl (upd co w ((co w) - ((nI (nd - uzN st HO k w nd)) * (rAt 30 (pS RS 100 1000) (inF RY (nI now) rk))))))), (zdebt, .inl (cI, 10, .inl (upd de w (nI (nd - uzN st HO k w nd))))), (zfines, .inl (cI, 10, .inl (upd fn (nI w).toNatClampNeg ((fn w) + ((nI (nd - uzN st HO k w nd)) * (rAt 30 (pS RS 100 1000) (inF RY (nI now) rk))))))), (zreading, .inl (cI, 800, .inl RD)), (zruleYear, .inl (cI, 30, .inl RY)), (zruleShare, .inl (cI, 30, .inl RS)), (zstate, .inl (cI, 4000, .inl ((usI HO k (w + 1) (nI now) (uzN st HO k w nd) st ui).1))), (zholder, .inl (cI, 4000, .inl HO)), (zusedIn, .inl (cI, 4000, .inl ((usI HO k (w + 1) (nI now) (uzN st HO k w nd) st ui).2)))]) hC hH 3 rfl (vp_in_nI (by omega) (by omega)) rfl dX9_end_130 (fun H locs hH => ?_)
            rw [show (upd fn (nI w).toNatClampNeg ((fn w) + ((nI (nd - uzN st HO k w nd)) * (rAt 30 (pS RS 100 1000) (inF RY (nI now) rk)))) : Nat → Int32) = upd fn w ((fn w) + ((nI (nd - uzN st HO k w nd)) * (rAt 30 (pS RS 100 1000) (inF RY (nI now) rk)))) from (by rw [nI_clamp (by omega)])] at hH
            refine lv_iload_n zx zy dX9_end_131 rfl (lv_at hl 5 rfl) ?_
            refine lv_aload_n zx zy dX9_end_132 rfl (lv_at hl 3 rfl) ?_
            refine fx_get (C := RX9) (T := TX9) (N := 34) hC (fun _ h => List.mem_cons_of_mem _ (List.mem_append_right _ h)) hH 0 rfl rfl 3 (by decide) (by decide +kernel) rfl dX9_end_133 ?_
            refine lv_iload_n zx zy dX9_end_136 rfl (lv_at hl 6 rfl) ?_
            refine fx_ild hC hH 2 rfl (vp_in_nI (by omega) (by omega)) dX9_end_137 ?_
            refine lv_topi (fun v31 ev31 => ?_)
            obtain rfl : v31 = nI (nd - uzN st HO k w nd) := ev31.trans ((congrArg (upd de w (nI (nd - uzN st HO k w nd))) (nI_clamp (by omega))).trans pk_us)
            refine lv_iadd zx zy dX9_end_138 ?_
            refine lv_istore_n (lv' := [(2, .int (lk + (nI (nd - uzN st HO k w nd)))), (6, .int (nI (uzN st HO k w nd))), (5, .int (nI (cntP (hW st HO (w + 1)) k))), (4, .int (nI nd)), (0, .ref h), (1, .int (rAt 30 (pS RS 100 1000) (inF RY (nI now) rk))), (3, .int (nI w))]) zx zy dX9_end_139 rfl hl (by decide) rfl (fun ls hl => ?_)
            refine lv_iinc (v := nI (w + 1)) (lv' := [(3, .int (nI (w + 1))), (2, .int (lk + (nI (nd - uzN st HO k w nd)))), (6, .int (nI (uzN st HO k w nd))), (5, .int (nI (cntP (hW st HO (w + 1)) k))), (4, .int (nI nd)), (0, .ref h), (1, .int (rAt 30 (pS RS 100 1000) (inF RY (nI now) rk)))]) zx zy dX9_end_140 hl (k := 6) rfl (nI_1 _) (by decide) rfl (fun ls hl => ?_)
            refine lv_goto (tgt := 29) zx zy dX9_end_143 (by decide) ?_
            exact ih29 (w + 1) (lk + (nI (nd - uzN st HO k w nd))) ((usI HO k (w + 1) (nI now) (uzN st HO k w nd) st ui).1) ((usI HO k (w + 1) (nI now) (uzN st HO k w nd) st ui).2) (upd co w ((co w) - ((nI (nd - uzN st HO k w nd)) * (rAt 30 (pS RS 100 1000) (inF RY (nI now) rk))))) (upd de w (nI (nd - uzN st HO k w nd))) (upd fn w ((fn w) + ((nI (nd - uzN st HO k w nd)) * (rAt 30 (pS RS 100 1000) (inF RY (nI now) rk))))) (by first | assumption | omega) (by show _ = enMs RD HO k now _ w (enM RD HO k now (rAt 30 (pS RS 100 1000) (inF RY (nI now) rk)) (ST, UI, CO, DE, FI, 0) w); rw [← hE]; simp only [enMs]; rw [hnd2, nI_clamp hndB]) (fun j hj => (pk_un (by omega)).trans (hde j (by omega))) _ _ _ (by omega) hH (lv_sub hl [5, 6, 1, 0] rfl)
    exact L29 _ 0 0 ST UI CO DE FI (by first | assumption | omega) (rfl) (fun _ _ => rfl) _ _ _ (Nat.lt_succ_self _) hH (lv_sub hl [3, 2, 1, 0] rfl)
  · skip
    have hn20 : ¬ now < 20 := by rw [(nI_eq (b := 20) (by omega) (by omega)).mp c6]; omega
    refine lv_iconst (v := (-1)) zx zy dX9_end_9 (by decide) ?_
    exact fx_iret (v := (-1)) hQ hC hr hlk hH dX9_end_10 rfl (Nat.le_of_ble_eq_true rfl) (Nat.le_of_ble_eq_true rfl) ((now, CO, DE, FI, ST, UI)) rfl (Or.inr ⟨hn20, rfl, rfl, rfl, rfl, rfl, rfl, rfl⟩)
set_option maxHeartbeats 4000000 in
set_option maxRecDepth 100000 in
theorem k_X9_cut (l : Launch) (D : va_G) (cI cZ : ClassId) (h : Nat) (zcoins : Nat) (zdebt : Nat) (zfines : Nat) (zreading : Nat) (zruleYear : Nat) (zruleWhat : Nat) (zruleShare : Nat) (zstate : Nat) (zholder : Nat) (zyearOf : Nat) (zusedIn : Nat) (zprojectOf : Nat) (zwent : Nat) (zbidWorks : Nat) (zbidMany : Nat) (zbidPrice : Nat) (zisFalse : Nat) (zcutMany : Nat) (ztonnes : Nat) (zcosts : Nat) (zgiven : Nat) (zcutOff : Nat) (zgot : Nat) (zcutsOf : Nat) (now : Nat) (wk : Nat) (rk : Nat) (k : Nat) (ii : Int32) (bk : Nat) (ac : Int32) (pj : Nat) (sm : Int32) (mg : Int32) (CM : Nat → Int32) (TN : Nat → Int32) (CS : Nat → Int32) (a1 : Int32) (a2 : Int32) (a3 : Int32) (hwk : wk ≤ 10) (hCM : ∀ w, w < 10 → ∃ e, e ≤ 4 ∧ CM w = nI e) : fx_CI l D cI cZ yX9_cut wsX9_cut ({ frames := 2, cells := 0, slots := 0, locals := 43 }) [.ref h, .int a1, .int a2, .int a3] [(h, .inr (9, [.int (nI now), .int (nI wk), .ref zcoins, .ref zdebt, .ref zfines, .ref zreading, .int (nI rk), .ref zruleYear, .ref zruleWhat, .ref zruleShare, .int (nI k), .ref zstate, .ref zholder, .ref zyearOf, .ref zusedIn, .ref zprojectOf, .ref zwent, .int ii, .int (nI bk), .ref zbidWorks, .ref zbidMany, .ref zbidPrice, .int ac, .int (nI pj), .ref zisFalse, .ref zcutMany, .ref ztonnes, .ref zcosts, .ref zgiven, .ref zcutOff, .ref zgot, .ref zcutsOf, .int sm, .int mg])), (zcutMany, .inl (cI, 10, .inl CM)), (ztonnes, .inl (cI, 40, .inl TN)), (zcosts, .inl (cI, 40, .inl CS))] (fun (u : (Nat → Int32) × (Nat → Int32) × (Nat → Int32)) => [(h, .inr (9, [.int (nI now), .int (nI wk), .ref zcoins, .ref zdebt, .ref zfines, .ref zreading, .int (nI rk), .ref zruleYear, .ref zruleWhat, .ref zruleShare, .int (nI k), .ref zstate, .ref zholder, .ref zyearOf, .ref zusedIn, .ref zprojectOf, .ref zwent, .int ii, .int (nI bk), .ref zbidWorks, .ref zbidMany, .ref zbidPrice, .int ac, .int (nI pj), .ref zisFalse, .ref zcutMany, .ref ztonnes, .ref zcosts, .ref zgiven, .ref zcutOff, .ref zgot, .ref zcutsOf, .int sm, .int mg])), (zcutMany, .inl (cI, 10, .inl u.1)), (ztonnes, .inl (cI, 40, .inl u.2.1)), (zcosts, .inl (cI, 40, .inl u.2.2))]) (fun (r : Int32) (u : (Nat → Int32) × (Nat → Int32) × (Nat → Int32)) => (∃ w e, (w < wk ∧ a1 = nI w ∧ ctC wk a1 a2 a3 ∧ CM w = nI e ∧ e < 4) ∧ r = CM w + 1 ∧ u.2.1 = upd TN (4 * w + e) a2 ∧ u.2.2 = upd CS (4 * w + e) a3 ∧ u.1 = upd CM w (CM w + 1)) ∨ ((∀ w, ¬ (w < wk ∧ a1 = nI w ∧ ctC wk a1 a2 a3 ∧ CM w < 4)) ∧ r = -1 ∧ u.2.1 = TN ∧ u.2.2 = CS ∧ u.1 = CM)) := by
  refine fx_CI.of (ws' := (wsX9_cut).tail) cX9_cut 4 (by decide) rfl (Nat.le_of_ble_eq_true rfl) ?_
  intro zp ze zs zm za zb zt zc zA ls zQ hQ hC hr hlk hA hH hl
  have zx := hC.1.1
  have zy := hC.1.2.1
  have hl : lv_has ls 4 [(0, .ref h), (1, .int a1), (2, .int a2), (3, .int a3)] := hl
  refine lv_aload_n zx zy dX9_cut_0 rfl (lv_at hl 0 rfl) ?_
  refine lv_iload_n zx zy dX9_cut_1 rfl (lv_at hl 1 rfl) ?_
  refine fx_cVi (n := 1) (As := [.int a1]) (b := h) (rest := []) (fun (u : Unit) => [(h, .inr (9, [.int (nI now), .int (nI wk), .ref zcoins, .ref zdebt, .ref zfines, .ref zreading, .int (nI rk), .ref zruleYear, .ref zruleWhat, .ref zruleShare, .int (nI k), .ref zstate, .ref zholder, .ref zyearOf, .ref zusedIn, .ref zprojectOf, .ref zwent, .int ii, .int (nI bk), .ref zbidWorks, .ref zbidMany, .ref zbidPrice, .int ac, .int (nI pj), .ref zisFalse, .ref zcutMany, .ref ztonnes, .ref zcosts, .ref zgiven, .ref zcutOff, .ref zgot, .ref zcutsOf, .int sm, .int mg])), (zcutMany, .inl (cI, 10, .inl CM)), (ztonnes, .inl (cI, 40, .inl TN)), (zcosts, .inl (cI, 40, .inl CS))]) hC hA hH (k_X9_isWorks l D cI cZ h zcoins zdebt zfines zreading zruleYear zruleWhat zruleShare zstate zholder zyearOf zusedIn zprojectOf zwent zbidWorks zbidMany zbidPrice zisFalse zcutMany ztonnes zcosts zgiven zcutOff zgot zcutsOf now wk rk k ii bk ac pj sm mg a1 (by first | assumption | omega)) [0] [1, 2, 3] [3, 0, 1, 2] [(zcutMany, .inl (cI, 10, .inl CM)), (ztonnes, .inl (cI, 40, .inl TN)), (zcosts, .inl (cI, 40, .inl CS))] rfl rfl (by decide) (by decide) (fun _ => rfl) rfl gX9_cut_X9_isWorks (by decide +kernel) ⟨Nat.le_of_ble_eq_true rfl, Nat.le_of_ble_eq_true rfl⟩ 0 rfl rfl rfl rfl rfl hl.1 (Nat.le_of_ble_eq_true rfl) ⟨Nat.le_of_ble_eq_true rfl, Nat.le_of_ble_eq_true rfl⟩ dX9_cut_2 (fun r1 u H locs hw2 hH => ?_)
  rcases hw2 with ⟨⟨j2, hj2, rfl⟩, rfl⟩ | ⟨hg2, rfl⟩
  · skip
    have hH := (hH : fx_H zA zs.heap H locs D [(h, .inr (9, [.int (nI now), .int (nI wk), .ref zcoins, .ref zdebt, .ref zfines, .ref zreading, .int (nI rk), .ref zruleYear, .ref zruleWhat, .ref zruleShare, .int (nI k), .ref zstate, .ref zholder, .ref zyearOf, .ref zusedIn, .ref zprojectOf, .ref zwent, .int ii, .int (nI bk), .ref zbidWorks, .ref zbidMany, .ref zbidPrice, .int ac, .int (nI pj), .ref zisFalse, .ref zcutMany, .ref ztonnes, .ref zcosts, .ref zgiven, .ref zcutOff, .ref zgot, .ref zcutsOf, .int sm, .int mg])), (zcutMany, .inl (cI, 10, .inl CM)), (ztonnes, .inl (cI, 40, .inl TN)), (zcosts, .inl (cI, 40, .inl CS))])
    have hl := (hl : lv_has ls 4 [(0, .ref h), (1, .int (nI j2)), (2, .int a2), (3, .int a3)])
    obtain ⟨e2, he2, ee2⟩ := hCM j2 (by omega)
    refine lv_if_eq (tgt := 39) zx zy dX9_cut_5 (by decide) (fun c5 => ?_) (fun c5 => ?_)
    · exact absurd c5 (by decide)
    · skip
      refine lv_iload_n zx zy dX9_cut_8 rfl (lv_at hl 2 rfl) ?_
      refine lv_iconst (v := 1) zx zy dX9_cut_9 (by decide) ?_
      refine lv_bipush (v := 99) zx zy dX9_cut_10 (by decide) ?_
      refine fx_cSi (n := 3) (As := [.int a2, .int 1, .int 99]) (rest := []) hC hA hH (k_X9_in l D cI cZ a2 1 99) ⟨rfl, rfl⟩ rfl gX9_cut_X9_in (by decide +kernel) ⟨Nat.le_of_ble_eq_true rfl, Nat.le_of_ble_eq_true rfl⟩ rfl rfl hl.1 (Nat.le_of_ble_eq_true rfl) ⟨(Nat.le_of_ble_eq_true rfl), (Nat.le_of_ble_eq_true rfl)⟩ dX9_cut_12 (fun r2 H locs hw12 hH => ?_)
      rcases hw12 with ⟨hg12, rfl⟩ | ⟨hg12, rfl⟩
      · skip
        have hH := (hH : fx_H zA zs.heap H locs D [(h, .inr (9, [.int (nI now), .int (nI wk), .ref zcoins, .ref zdebt, .ref zfines, .ref zreading, .int (nI rk), .ref zruleYear, .ref zruleWhat, .ref zruleShare, .int (nI k), .ref zstate, .ref zholder, .ref zyearOf, .ref zusedIn, .ref zprojectOf, .ref zwent, .int ii, .int (nI bk), .ref zbidWorks, .ref zbidMany, .ref zbidPrice, .int ac, .int (nI pj), .ref zisFalse, .ref zcutMany, .ref ztonnes, .ref zcosts, .ref zgiven, .ref zcutOff, .ref zgot, .ref zcutsOf, .int sm, .int mg])), (zcutMany, .inl (cI, 10, .inl CM)), (ztonnes, .inl (cI, 40, .inl TN)), (zcosts, .inl (cI, 40, .inl CS))])
        refine lv_if_eq (tgt := 39) zx zy dX9_cut_15 (by decide) (fun c15 => ?_) (fun c15 => ?_)
        · exact absurd c15 (by decide)
        · skip
          refine lv_iload_n zx zy dX9_cut_18 rfl (lv_at hl 3 rfl) ?_
          refine lv_iconst (v := 0) zx zy dX9_cut_19 (by decide) ?_
          refine lv_sipush (v := 999) zx zy dX9_cut_20 (by decide) ?_
          refine fx_cSi (n := 3) (As := [.int a3, .int 0, .int 999]) (rest := []) hC hA hH (k_X9_in l D cI cZ a3 0 999) ⟨rfl, rfl⟩ rfl gX9_cut_X9_in (by decide +kernel) ⟨Nat.le_of_ble_eq_true rfl, Nat.le_of_ble_eq_true rfl⟩ rfl rfl hl.1 (Nat.le_of_ble_eq_true rfl) ⟨(Nat.le_of_ble_eq_true rfl), (Nat.le_of_ble_eq_true rfl)⟩ dX9_cut_23 (fun r3 H locs hw23 hH => ?_)
          rcases hw23 with ⟨hg23, rfl⟩ | ⟨hg23, rfl⟩
          · skip
            have hH := (hH : fx_H zA zs.heap H locs D [(h, .inr (9, [.int (nI now), .int (nI wk), .ref zcoins, .ref zdebt, .ref zfines, .ref zreading, .int (nI rk), .ref zruleYear, .ref zruleWhat, .ref zruleShare, .int (nI k), .ref zstate, .ref zholder, .ref zyearOf, .ref zusedIn, .ref zprojectOf, .ref zwent, .int ii, .int (nI bk), .ref zbidWorks, .ref zbidMany, .ref zbidPrice, .int ac, .int (nI pj), .ref zisFalse, .ref zcutMany, .ref ztonnes, .ref zcosts, .ref zgiven, .ref zcutOff, .ref zgot, .ref zcutsOf, .int sm, .int mg])), (zcutMany, .inl (cI, 10, .inl CM)), (ztonnes, .inl (cI, 40, .inl TN)), (zcosts, .inl (cI, 40, .inl CS))])
            refine lv_if_eq (tgt := 39) zx zy dX9_cut_26 (by decide) (fun c26 => ?_) (fun c26 => ?_)
            · exact absurd c26 (by decide)
            · skip
              refine lv_aload_n zx zy dX9_cut_29 rfl (lv_at hl 0 rfl) ?_
              refine fx_get (C := RX9) (T := TX9) (N := 34) hC (fun _ h => List.mem_cons_of_mem _ (List.mem_append_right _ h)) hH 0 rfl rfl 25 (by decide) (by decide +kernel) rfl dX9_cut_30 ?_
              refine lv_iload_n zx zy dX9_cut_33 rfl (lv_at hl 1 rfl) ?_
              refine fx_ild hC hH 1 rfl (vp_in_nI (by omega) (by omega)) dX9_cut_34 ?_
              refine lv_topi (fun v4 ev4 => ?_)
              obtain rfl : v4 = CM j2 := ev4.trans (congrArg CM (nI_clamp (by omega)))
              refine lv_iconst (v := 4) zx zy dX9_cut_35 (by decide) ?_
              refine lv_icmp_ne (tgt := 41) zx zy dX9_cut_36 (by decide) (fun c36 => ?_) (fun c36 => ?_)
              · skip
                have he4 : e2 < 4 := Nat.lt_of_le_of_ne he2 (fun e => c36 (by rw [ee2, e]; rfl))
                refine lv_aload_n zx zy dX9_cut_41 rfl (lv_at hl 0 rfl) ?_
                refine fx_get (C := RX9) (T := TX9) (N := 34) hC (fun _ h => List.mem_cons_of_mem _ (List.mem_append_right _ h)) hH 0 rfl rfl 26 (by decide) (by decide +kernel) rfl dX9_cut_42 ?_
                refine lv_iconst (v := 4) zx zy dX9_cut_45 (by decide) ?_
                refine lv_iload_n zx zy dX9_cut_46 rfl (lv_at hl 1 rfl) ?_
                refine lv_imul zx zy dX9_cut_47 ?_
                refine lv_topi (fun v5 ev5 => ?_)
                obtain rfl : v5 = nI (4 * j2) := ev5.trans (pk_mul 4 j2)
                refine lv_aload_n zx zy dX9_cut_48 rfl (lv_at hl 0 rfl) ?_
                refine fx_get (C := RX9) (T := TX9) (N := 34) hC (fun _ h => List.mem_cons_of_mem _ (List.mem_append_right _ h)) hH 0 rfl rfl 25 (by decide) (by decide +kernel) rfl dX9_cut_49 ?_
                refine lv_iload_n zx zy dX9_cut_52 rfl (lv_at hl 1 rfl) ?_
                refine fx_ild hC hH 1 rfl (vp_in_nI (by omega) (by omega)) dX9_cut_53 ?_
                refine lv_topi (fun v6 ev6 => ?_)
                obtain rfl : v6 = nI e2 := ev6.trans ((congrArg CM (nI_clamp (by omega))).trans ee2)
                refine lv_iadd zx zy dX9_cut_54 ?_
                refine lv_topi (fun v7 ev7 => ?_)
                obtain rfl : v7 = nI (4 * j2 + e2) := ev7.trans (nI_add _ _)
                refine lv_iload_n zx zy dX9_cut_55 rfl (lv_at hl 2 rfl) ?_
                refine fx_ist (ws2 := [(h, .inr (9, [.int (nI now), .int (nI wk), .ref zcoins, .ref zdebt, .ref zfines, .ref zreading, .int (nI rk), .ref zruleYear, .ref zruleWhat, .ref zruleShare, .int (nI k), .ref zstate, .ref zholder, .ref zyearOf, .ref zusedIn, .ref zprojectOf, .ref zwent, .int ii, .int (nI bk), .ref zbidWorks, .ref zbidMany, .ref zbidPrice, .int ac, .int (nI pj), .ref zisFalse, .ref zcutMany, .ref ztonnes, .ref zcosts, .ref zgiven, .ref zcutOff, .ref zgot, .ref zcutsOf, .int sm, .int mg])), (zcutMany, .inl (cI, 10, .inl CM)), (ztonnes, .inl (cI, 40, .inl (upd TN (nI (4 * j2 + e2)).toNatClampNeg a2))), (zcosts, .inl (cI, 40, .inl CS))]) hC hH 2 rfl (vp_in_nI (by omega) (by omega)) rfl dX9_cut_56 (fun H locs hH => ?_)
                rw [show (upd TN (nI (4 * j2 + e2)).toNatClampNeg a2 : Nat → Int32) = upd TN (4 * j2 + e2) a2 from (by rw [nI_clamp (by omega)])] at hH
                refine lv_aload_n zx zy dX9_cut_57 rfl (lv_at hl 0 rfl) ?_
                refine fx_get (C := RX9) (T := TX9) (N := 34) hC (fun _ h => List.mem_cons_of_mem _ (List.mem_append_right _ h)) hH 0 rfl rfl 27 (by decide) (by decide +kernel) rfl dX9_cut_58 ?_
                refine lv_iconst (v := 4) zx zy dX9_cut_61 (by decide) ?_
                refine lv_iload_n zx zy dX9_cut_62 rfl (lv_at hl 1 rfl) ?_
                refine lv_imul zx zy dX9_cut_63 ?_
                refine lv_topi (fun v8 ev8 => ?_)
                obtain rfl : v8 = nI (4 * j2) := ev8.trans (pk_mul 4 j2)
                refine lv_aload_n zx zy dX9_cut_64 rfl (lv_at hl 0 rfl) ?_
                refine fx_get (C := RX9) (T := TX9) (N := 34) hC (fun _ h => List.mem_cons_of_mem _ (List.mem_append_right _ h)) hH 0 rfl rfl 25 (by decide) (by decide +kernel) rfl dX9_cut_65 ?_
                refine lv_iload_n zx zy dX9_cut_68 rfl (lv_at hl 1 rfl) ?_
                refine fx_ild hC hH 1 rfl (vp_in_nI (by omega) (by omega)) dX9_cut_69 ?_
                refine lv_topi (fun v9 ev9 => ?_)
                obtain rfl : v9 = nI e2 := ev9.trans ((congrArg CM (nI_clamp (by omega))).trans ee2)
                refine lv_iadd zx zy dX9_cut_70 ?_
                refine lv_topi (fun v10 ev10 => ?_)
                obtain rfl : v10 = nI (4 * j2 + e2) := ev10.trans (nI_add _ _)
                refine lv_iload_n zx zy dX9_cut_71 rfl (lv_at hl 3 rfl) ?_
                refine fx_ist (ws2 := [(h, .inr (9, [.int (nI now), .int (nI wk), .ref zcoins, .ref zdebt, .ref zfines, .ref zreading, .int (nI rk), .ref zruleYear, .ref zruleWhat, .ref zruleShare, .int (nI k), .ref zstate, .ref zholder, .ref zyearOf, .ref zusedIn, .ref zprojectOf, .ref zwent, .int ii, .int (nI bk), .ref zbidWorks, .ref zbidMany, .ref zbidPrice, .int ac, .int (nI pj), .ref zisFalse, .ref zcutMany, .ref ztonnes, .ref zcosts, .ref zgiven, .ref zcutOff, .ref zgot, .ref zcutsOf, .int sm, .int mg])), (zcutMany, .inl (cI, 10, .inl CM)), (ztonnes, .inl (cI, 40, .inl (upd TN (4 * j2 + e2) a2))), (zcosts, .inl (cI, 40, .inl (upd CS (nI (4 * j2 + e2)).toNatClampNeg a3)))]) hC hH 3 rfl (vp_in_nI (by omega) (by omega)) rfl dX9_cut_72 (fun H locs hH => ?_)
                rw [show (upd CS (nI (4 * j2 + e2)).toNatClampNeg a3 : Nat → Int32) = upd CS (4 * j2 + e2) a3 from (by rw [nI_clamp (by omega)])] at hH
                refine lv_aload_n zx zy dX9_cut_73 rfl (lv_at hl 0 rfl) ?_
                refine fx_get (C := RX9) (T := TX9) (N := 34) hC (fun _ h => List.mem_cons_of_mem _ (List.mem_append_right _ h)) hH 0 rfl rfl 25 (by decide) (by decide +kernel) rfl dX9_cut_74 ?_
                refine lv_iload_n zx zy dX9_cut_77 rfl (lv_at hl 1 rfl) ?_
                refine lv_dup2_11 zx zy dX9_cut_78 rfl rfl ?_
                refine fx_ild hC hH 1 rfl (vp_in_nI (by omega) (by omega)) dX9_cut_79 ?_
                refine lv_topi (fun v11 ev11 => ?_)
                obtain rfl : v11 = CM j2 := ev11.trans (congrArg CM (nI_clamp (by omega)))
                refine lv_iconst (v := 1) zx zy dX9_cut_80 (by decide) ?_
                refine lv_iadd zx zy dX9_cut_81 ?_
                refine fx_ist (ws2 := [(h, .inr (9, [.int (nI now), .int (nI wk), .ref zcoins, .ref zdebt, .ref zfines, .ref zreading, .int (nI rk), .ref zruleYear, .ref zruleWhat, .ref zruleShare, .int (nI k), .ref zstate, .ref zholder, .ref zyearOf, .ref zusedIn, .ref zprojectOf, .ref zwent, .int ii, .int (nI bk), .ref zbidWorks, .ref zbidMany, .ref zbidPrice, .int ac, .int (nI pj), .ref zisFalse, .ref zcutMany, .ref ztonnes, .ref zcosts, .ref zgiven, .ref zcutOff, .ref zgot, .ref zcutsOf, .int sm, .int mg])), (zcutMany, .inl (cI, 10, .inl (upd CM (nI j2).toNatClampNeg ((CM j2) + 1)))), (ztonnes, .inl (cI, 40, .inl (upd TN (4 * j2 + e2) a2))), (zcosts, .inl (cI, 40, .inl (upd CS (4 * j2 + e2) a3)))]) hC hH 1 rfl (vp_in_nI (by omega) (by omega)) rfl dX9_cut_82 (fun H locs hH => ?_)
                rw [show (upd CM (nI j2).toNatClampNeg ((CM j2) + 1) : Nat → Int32) = upd CM j2 ((CM j2) + 1) from (by rw [nI_clamp (by omega)])] at hH
                refine lv_aload_n zx zy dX9_cut_83 rfl (lv_at hl 0 rfl) ?_
                refine fx_get (C := RX9) (T := TX9) (N := 34) hC (fun _ h => List.mem_cons_of_mem _ (List.mem_append_right _ h)) hH 0 rfl rfl 25 (by decide) (by decide +kernel) rfl dX9_cut_84 ?_
                refine lv_iload_n zx zy dX9_cut_87 rfl (lv_at hl 1 rfl) ?_
                refine fx_ild hC hH 1 rfl (vp_in_nI (by omega) (by omega)) dX9_cut_88 ?_
                refine lv_topi (fun v12 ev12 => ?_)
                obtain rfl : v12 = CM j2 + 1 := ev12.trans ((congrArg (upd CM j2 (CM j2 + 1)) (nI_clamp (by omega))).trans pk_us)
                exact fx_iret (v := CM j2 + 1) hQ hC hr hlk hH dX9_cut_89 rfl (Nat.le_of_ble_eq_true rfl) (Nat.le_of_ble_eq_true rfl) ((upd CM j2 ((CM j2) + 1), upd TN (4 * j2 + e2) a2, upd CS (4 * j2 + e2) a3)) rfl (Or.inl ⟨j2, e2, ⟨hj2, rfl, ⟨⟨j2, hj2, rfl⟩, hg12, hg23⟩, ee2, he4⟩, rfl, rfl, rfl, rfl⟩)
              · skip
                have he4 : ¬ CM j2 < 4 := by rw [c36]; decide
                refine lv_iconst (v := (-1)) zx zy dX9_cut_39 (by decide) ?_
                exact fx_iret (v := (-1)) hQ hC hr hlk hH dX9_cut_40 rfl (Nat.le_of_ble_eq_true rfl) (Nat.le_of_ble_eq_true rfl) ((CM, TN, CS)) rfl (Or.inr ⟨fun w z => by first | exact hg2 ⟨w, z.1, z.2.1⟩ | exact hg12.elim z.2.2.1.2.1.1 z.2.2.1.2.1.2 | exact hg23.elim z.2.2.1.2.2.1 z.2.2.1.2.2.2 | exact he4 (by rw [(nI_eq (by omega) (by omega)).mp z.2.1]; exact z.2.2.2), rfl, rfl, rfl, rfl⟩)
          · skip
            have hH := (hH : fx_H zA zs.heap H locs D [(h, .inr (9, [.int (nI now), .int (nI wk), .ref zcoins, .ref zdebt, .ref zfines, .ref zreading, .int (nI rk), .ref zruleYear, .ref zruleWhat, .ref zruleShare, .int (nI k), .ref zstate, .ref zholder, .ref zyearOf, .ref zusedIn, .ref zprojectOf, .ref zwent, .int ii, .int (nI bk), .ref zbidWorks, .ref zbidMany, .ref zbidPrice, .int ac, .int (nI pj), .ref zisFalse, .ref zcutMany, .ref ztonnes, .ref zcosts, .ref zgiven, .ref zcutOff, .ref zgot, .ref zcutsOf, .int sm, .int mg])), (zcutMany, .inl (cI, 10, .inl CM)), (ztonnes, .inl (cI, 40, .inl TN)), (zcosts, .inl (cI, 40, .inl CS))])
            refine lv_if_eq (tgt := 39) zx zy dX9_cut_26 (by decide) (fun c26 => ?_) (fun c26 => ?_)
            · skip
              refine lv_iconst (v := (-1)) zx zy dX9_cut_39 (by decide) ?_
              exact fx_iret (v := (-1)) hQ hC hr hlk hH dX9_cut_40 rfl (Nat.le_of_ble_eq_true rfl) (Nat.le_of_ble_eq_true rfl) ((CM, TN, CS)) rfl (Or.inr ⟨fun w z => by first | exact hg2 ⟨w, z.1, z.2.1⟩ | exact hg12.elim z.2.2.1.2.1.1 z.2.2.1.2.1.2 | exact hg23.elim z.2.2.1.2.2.1 z.2.2.1.2.2.2 | exact he4 (by rw [(nI_eq (by omega) (by omega)).mp z.2.1]; exact z.2.2.2), rfl, rfl, rfl, rfl⟩)
            · exact absurd c26 (by decide)
      · skip
        have hH := (hH : fx_H zA zs.heap H locs D [(h, .inr (9, [.int (nI now), .int (nI wk), .ref zcoins, .ref zdebt, .ref zfines, .ref zreading, .int (nI rk), .ref zruleYear, .ref zruleWhat, .ref zruleShare, .int (nI k), .ref zstate, .ref zholder, .ref zyearOf, .ref zusedIn, .ref zprojectOf, .ref zwent, .int ii, .int (nI bk), .ref zbidWorks, .ref zbidMany, .ref zbidPrice, .int ac, .int (nI pj), .ref zisFalse, .ref zcutMany, .ref ztonnes, .ref zcosts, .ref zgiven, .ref zcutOff, .ref zgot, .ref zcutsOf, .int sm, .int mg])), (zcutMany, .inl (cI, 10, .inl CM)), (ztonnes, .inl (cI, 40, .inl TN)), (zcosts, .inl (cI, 40, .inl CS))])
        refine lv_if_eq (tgt := 39) zx zy dX9_cut_15 (by decide) (fun c15 => ?_) (fun c15 => ?_)
        · skip
          refine lv_iconst (v := (-1)) zx zy dX9_cut_39 (by decide) ?_
          exact fx_iret (v := (-1)) hQ hC hr hlk hH dX9_cut_40 rfl (Nat.le_of_ble_eq_true rfl) (Nat.le_of_ble_eq_true rfl) ((CM, TN, CS)) rfl (Or.inr ⟨fun w z => by first | exact hg2 ⟨w, z.1, z.2.1⟩ | exact hg12.elim z.2.2.1.2.1.1 z.2.2.1.2.1.2 | exact hg23.elim z.2.2.1.2.2.1 z.2.2.1.2.2.2 | exact he4 (by rw [(nI_eq (by omega) (by omega)).mp z.2.1]; exact z.2.2.2), rfl, rfl, rfl, rfl⟩)
        · exact absurd c15 (by decide)
  · skip
    have hH := (hH : fx_H zA zs.heap H locs D [(h, .inr (9, [.int (nI now), .int (nI wk), .ref zcoins, .ref zdebt, .ref zfines, .ref zreading, .int (nI rk), .ref zruleYear, .ref zruleWhat, .ref zruleShare, .int (nI k), .ref zstate, .ref zholder, .ref zyearOf, .ref zusedIn, .ref zprojectOf, .ref zwent, .int ii, .int (nI bk), .ref zbidWorks, .ref zbidMany, .ref zbidPrice, .int ac, .int (nI pj), .ref zisFalse, .ref zcutMany, .ref ztonnes, .ref zcosts, .ref zgiven, .ref zcutOff, .ref zgot, .ref zcutsOf, .int sm, .int mg])), (zcutMany, .inl (cI, 10, .inl CM)), (ztonnes, .inl (cI, 40, .inl TN)), (zcosts, .inl (cI, 40, .inl CS))])
    refine lv_if_eq (tgt := 39) zx zy dX9_cut_5 (by decide) (fun c5 => ?_) (fun c5 => ?_)
    · skip
      refine lv_iconst (v := (-1)) zx zy dX9_cut_39 (by decide) ?_
      exact fx_iret (v := (-1)) hQ hC hr hlk hH dX9_cut_40 rfl (Nat.le_of_ble_eq_true rfl) (Nat.le_of_ble_eq_true rfl) ((CM, TN, CS)) rfl (Or.inr ⟨fun w z => by first | exact hg2 ⟨w, z.1, z.2.1⟩ | exact hg12.elim z.2.2.1.2.1.1 z.2.2.1.2.1.2 | exact hg23.elim z.2.2.1.2.2.1 z.2.2.1.2.2.2 | exact he4 (by rw [(nI_eq (by omega) (by omega)).mp z.2.1]; exact z.2.2.2), rfl, rfl, rfl, rfl⟩)
    · exact absurd c5 (by decide)
set_option maxHeartbeats 4000000 in
set_option maxRecDepth 100000 in
theorem k_X9_count (l : Launch) (D : va_G) (cI cZ : ClassId) (h : Nat) (zcoins : Nat) (zdebt : Nat) (zfines : Nat) (zreading : Nat) (zruleYear : Nat) (zruleWhat : Nat) (zruleShare : Nat) (zstate : Nat) (zholder : Nat) (zyearOf : Nat) (zusedIn : Nat) (zprojectOf : Nat) (zwent : Nat) (zbidWorks : Nat) (zbidMany : Nat) (zbidPrice : Nat) (zisFalse : Nat) (zcutMany : Nat) (ztonnes : Nat) (zcosts : Nat) (zgiven : Nat) (zcutOff : Nat) (zgot : Nat) (zcutsOf : Nat) (now : Nat) (wk : Nat) (rk : Nat) (k : Nat) (ii : Int32) (bk : Nat) (ac : Int32) (pj : Nat) (sm : Int32) (mg : Int32) (FI : Nat → Int32) (ST : Nat → Int32) (HO : Nat → Int32) (t : Int32) (hwk : wk ≤ 10) (hk4 : k ≤ 4000) : fx_CI l D cI cZ yX9_count wsX9_count ({ frames := 1, cells := 0, slots := 0, locals := 24 }) [.ref h, .int t] [(h, .inr (9, [.int (nI now), .int (nI wk), .ref zcoins, .ref zdebt, .ref zfines, .ref zreading, .int (nI rk), .ref zruleYear, .ref zruleWhat, .ref zruleShare, .int (nI k), .ref zstate, .ref zholder, .ref zyearOf, .ref zusedIn, .ref zprojectOf, .ref zwent, .int ii, .int (nI bk), .ref zbidWorks, .ref zbidMany, .ref zbidPrice, .int ac, .int (nI pj), .ref zisFalse, .ref zcutMany, .ref ztonnes, .ref zcosts, .ref zgiven, .ref zcutOff, .ref zgot, .ref zcutsOf, .int sm, .int mg])), (zfines, .inl (cI, 10, .inl FI)), (zstate, .inl (cI, 4000, .inl ST)), (zholder, .inl (cI, 4000, .inl HO))] (fun (u : Unit) => [(h, .inr (9, [.int (nI now), .int (nI wk), .ref zcoins, .ref zdebt, .ref zfines, .ref zreading, .int (nI rk), .ref zruleYear, .ref zruleWhat, .ref zruleShare, .int (nI k), .ref zstate, .ref zholder, .ref zyearOf, .ref zusedIn, .ref zprojectOf, .ref zwent, .int ii, .int (nI bk), .ref zbidWorks, .ref zbidMany, .ref zbidPrice, .int ac, .int (nI pj), .ref zisFalse, .ref zcutMany, .ref ztonnes, .ref zcosts, .ref zgiven, .ref zcutOff, .ref zgot, .ref zcutsOf, .int sm, .int mg])), (zfines, .inl (cI, 10, .inl FI)), (zstate, .inl (cI, 4000, .inl ST)), (zholder, .inl (cI, 4000, .inl HO))]) (fun (r : Int32) (u : Unit) => r = ctV (nI now) (nI wk) (nI k) (nI (cntP (cOf ST HO 0 (-2147483648)) k) - nI (cntP (hW ST HO 0) k)) (nI (cntP (hW ST HO 0) k)) (nI (cntP (cOf ST HO 1 (-2147483648)) k)) (nI (cntP (cOf ST HO 2 (-2147483648)) k) + nI (cntP (cOf ST HO 3 (-2147483648)) k)) (nI bk) ac (shS FI wk) (nI pj) t) := by
  refine fx_CI.of (ws' := (wsX9_count).tail) cX9_count 4 (by decide) rfl (Nat.le_of_ble_eq_true rfl) ?_
  intro zp ze zs zm za zb zt zc zA ls zQ hQ hC hr hlk hA hH hl
  have zx := hC.1.1
  have zy := hC.1.2.1
  have hl : lv_has ls 4 [(0, .ref h), (1, .int t)] := hl
  refine lv_iconst (v := 0) zx zy dX9_count_0 (by decide) ?_
  refine lv_istore_n (lv' := [(2, .int 0), (0, .ref h), (1, .int t)]) zx zy dX9_count_1 rfl hl (by decide) rfl (fun ls hl => ?_)
  refine lv_iload_n zx zy dX9_count_2 rfl (lv_at hl 2 rfl) ?_
  by_cases t3_0 : t = 0
  · refine lv_tableIn (off := 57) (tgt := 60) zx zy dX9_count_3 (by rw [t3_0]; decide) (by rw [t3_0]; decide) (by rw [t3_0]; rfl) (by decide) ?_
    refine lv_aload_n zx zy dX9_count_60 rfl (lv_at hl 1 rfl) ?_
    refine fx_get (C := RX9) (T := TX9) (N := 34) hC (fun _ h => List.mem_cons_of_mem _ (List.mem_append_right _ h)) hH 0 rfl rfl 0 (by decide) (by decide +kernel) rfl dX9_count_61 ?_
    exact fx_iret (v := nI now) hQ hC hr hlk hH dX9_count_64 rfl (Nat.le_of_ble_eq_true rfl) (Nat.le_of_ble_eq_true rfl) (()) rfl (by rw [t3_0]; rfl)
  by_cases t3_1 : t = 1
  · refine lv_tableIn (off := 62) (tgt := 65) zx zy dX9_count_3 (by rw [t3_1]; decide) (by rw [t3_1]; decide) (by rw [t3_1]; rfl) (by decide) ?_
    refine lv_aload_n zx zy dX9_count_65 rfl (lv_at hl 1 rfl) ?_
    refine fx_get (C := RX9) (T := TX9) (N := 34) hC (fun _ h => List.mem_cons_of_mem _ (List.mem_append_right _ h)) hH 0 rfl rfl 1 (by decide) (by decide +kernel) rfl dX9_count_66 ?_
    exact fx_iret (v := nI wk) hQ hC hr hlk hH dX9_count_69 rfl (Nat.le_of_ble_eq_true rfl) (Nat.le_of_ble_eq_true rfl) (()) rfl (by rw [t3_1]; rfl)
  by_cases t3_2 : t = 2
  · refine lv_tableIn (off := 67) (tgt := 70) zx zy dX9_count_3 (by rw [t3_2]; decide) (by rw [t3_2]; decide) (by rw [t3_2]; rfl) (by decide) ?_
    refine lv_aload_n zx zy dX9_count_70 rfl (lv_at hl 1 rfl) ?_
    refine fx_get (C := RX9) (T := TX9) (N := 34) hC (fun _ h => List.mem_cons_of_mem _ (List.mem_append_right _ h)) hH 0 rfl rfl 10 (by decide) (by decide +kernel) rfl dX9_count_71 ?_
    exact fx_iret (v := nI k) hQ hC hr hlk hH dX9_count_74 rfl (Nat.le_of_ble_eq_true rfl) (Nat.le_of_ble_eq_true rfl) (()) rfl (by rw [t3_2]; rfl)
  by_cases t3_3 : t = 3
  · refine lv_tableIn (off := 72) (tgt := 75) zx zy dX9_count_3 (by rw [t3_3]; decide) (by rw [t3_3]; decide) (by rw [t3_3]; rfl) (by decide) ?_
    refine lv_aload_n zx zy dX9_count_75 rfl (lv_at hl 1 rfl) ?_
    refine lv_iconst (v := 0) zx zy dX9_count_76 (by decide) ?_
    refine lv_ldc (own := RX9) (v := (-2147483648)) zx zy hC.1.2.2.2.1 (hC.1.2.2.2.2 _ (by decide +kernel)) dX9_count_77 ?_
    refine fx_cVi (n := 2) (As := [.int 0, .int (-2147483648)]) (b := h) (rest := []) (fun (u : Unit) => [(h, .inr (9, [.int (nI now), .int (nI wk), .ref zcoins, .ref zdebt, .ref zfines, .ref zreading, .int (nI rk), .ref zruleYear, .ref zruleWhat, .ref zruleShare, .int (nI k), .ref zstate, .ref zholder, .ref zyearOf, .ref zusedIn, .ref zprojectOf, .ref zwent, .int ii, .int (nI bk), .ref zbidWorks, .ref zbidMany, .ref zbidPrice, .int ac, .int (nI pj), .ref zisFalse, .ref zcutMany, .ref ztonnes, .ref zcosts, .ref zgiven, .ref zcutOff, .ref zgot, .ref zcutsOf, .int sm, .int mg])), (zfines, .inl (cI, 10, .inl FI)), (zstate, .inl (cI, 4000, .inl ST)), (zholder, .inl (cI, 4000, .inl HO))]) hC hA hH (k_X9_countOf l D cI cZ h zcoins zdebt zfines zreading zruleYear zruleWhat zruleShare zstate zholder zyearOf zusedIn zprojectOf zwent zbidWorks zbidMany zbidPrice zisFalse zcutMany ztonnes zcosts zgiven zcutOff zgot zcutsOf now wk rk k ii bk ac pj sm mg ST HO 0 (-2147483648) (by first | assumption | omega)) [0, 2, 3] [1] [1, 0, 2, 3] [(zfines, .inl (cI, 10, .inl FI))] rfl rfl (by decide) (by decide) (fun _ => rfl) rfl gX9_count_X9_countOf (by decide +kernel) ⟨Nat.le_of_ble_eq_true rfl, Nat.le_of_ble_eq_true rfl⟩ 0 rfl rfl rfl rfl rfl hl.1 (Nat.le_of_ble_eq_true rfl) ⟨Nat.le_of_ble_eq_true rfl, Nat.le_of_ble_eq_true rfl⟩ dX9_count_79 (fun r1 u H locs hw79 hH => ?_)
    obtain rfl : r1 = nI (cntP (cOf ST HO 0 (-2147483648)) k) := hw79
    have hH := (hH : fx_H zA zs.heap H locs D [(h, .inr (9, [.int (nI now), .int (nI wk), .ref zcoins, .ref zdebt, .ref zfines, .ref zreading, .int (nI rk), .ref zruleYear, .ref zruleWhat, .ref zruleShare, .int (nI k), .ref zstate, .ref zholder, .ref zyearOf, .ref zusedIn, .ref zprojectOf, .ref zwent, .int ii, .int (nI bk), .ref zbidWorks, .ref zbidMany, .ref zbidPrice, .int ac, .int (nI pj), .ref zisFalse, .ref zcutMany, .ref ztonnes, .ref zcosts, .ref zgiven, .ref zcutOff, .ref zgot, .ref zcutsOf, .int sm, .int mg])), (zfines, .inl (cI, 10, .inl FI)), (zstate, .inl (cI, 4000, .inl ST)), (zholder, .inl (cI, 4000, .inl HO))])
    refine lv_aload_n zx zy dX9_count_82 rfl (lv_at hl 1 rfl) ?_
    refine lv_iconst (v := (-1)) zx zy dX9_count_83 (by decide) ?_
    refine fx_cVi (n := 1) (As := [.int (-1)]) (b := h) (rest := [.int (nI (cntP (cOf ST HO 0 (-2147483648)) k))]) (fun (u : Unit) => [(h, .inr (9, [.int (nI now), .int (nI wk), .ref zcoins, .ref zdebt, .ref zfines, .ref zreading, .int (nI rk), .ref zruleYear, .ref zruleWhat, .ref zruleShare, .int (nI k), .ref zstate, .ref zholder, .ref zyearOf, .ref zusedIn, .ref zprojectOf, .ref zwent, .int ii, .int (nI bk), .ref zbidWorks, .ref zbidMany, .ref zbidPrice, .int ac, .int (nI pj), .ref zisFalse, .ref zcutMany, .ref ztonnes, .ref zcosts, .ref zgiven, .ref zcutOff, .ref zgot, .ref zcutsOf, .int sm, .int mg])), (zfines, .inl (cI, 10, .inl FI)), (zstate, .inl (cI, 4000, .inl ST)), (zholder, .inl (cI, 4000, .inl HO))]) hC hA hH (k_X9_holds l D cI cZ h zcoins zdebt zfines zreading zruleYear zruleWhat zruleShare zstate zholder zyearOf zusedIn zprojectOf zwent zbidWorks zbidMany zbidPrice zisFalse zcutMany ztonnes zcosts zgiven zcutOff zgot zcutsOf now wk rk k ii bk ac pj sm mg ST HO (-1) 0 (by decide) (by omega) (by first | assumption | omega)) [0, 2, 3] [1] [1, 0, 2, 3] [(zfines, .inl (cI, 10, .inl FI))] rfl rfl (by decide) (by decide) (fun _ => rfl) rfl gX9_count_X9_holds (by decide +kernel) ⟨Nat.le_of_ble_eq_true rfl, Nat.le_of_ble_eq_true rfl⟩ 0 rfl rfl rfl rfl rfl hl.1 (Nat.le_of_ble_eq_true rfl) ⟨Nat.le_of_ble_eq_true rfl, Nat.le_of_ble_eq_true rfl⟩ dX9_count_84 (fun r2 u H locs hw84 hH => ?_)
    obtain rfl : r2 = nI (cntP (hW ST HO 0) k) := hw84
    have hH := (hH : fx_H zA zs.heap H locs D [(h, .inr (9, [.int (nI now), .int (nI wk), .ref zcoins, .ref zdebt, .ref zfines, .ref zreading, .int (nI rk), .ref zruleYear, .ref zruleWhat, .ref zruleShare, .int (nI k), .ref zstate, .ref zholder, .ref zyearOf, .ref zusedIn, .ref zprojectOf, .ref zwent, .int ii, .int (nI bk), .ref zbidWorks, .ref zbidMany, .ref zbidPrice, .int ac, .int (nI pj), .ref zisFalse, .ref zcutMany, .ref ztonnes, .ref zcosts, .ref zgiven, .ref zcutOff, .ref zgot, .ref zcutsOf, .int sm, .int mg])), (zfines, .inl (cI, 10, .inl FI)), (zstate, .inl (cI, 4000, .inl ST)), (zholder, .inl (cI, 4000, .inl HO))])
    refine lv_isub zx zy dX9_count_87 ?_
    exact fx_iret (v := (nI (cntP (cOf ST HO 0 (-2147483648)) k)) - (nI (cntP (hW ST HO 0) k))) hQ hC hr hlk hH dX9_count_88 rfl (Nat.le_of_ble_eq_true rfl) (Nat.le_of_ble_eq_true rfl) (()) rfl (by rw [t3_3]; rfl)
  by_cases t3_4 : t = 4
  · refine lv_tableIn (off := 86) (tgt := 89) zx zy dX9_count_3 (by rw [t3_4]; decide) (by rw [t3_4]; decide) (by rw [t3_4]; rfl) (by decide) ?_
    refine lv_aload_n zx zy dX9_count_89 rfl (lv_at hl 1 rfl) ?_
    refine lv_iconst (v := (-1)) zx zy dX9_count_90 (by decide) ?_
    refine fx_cVi (n := 1) (As := [.int (-1)]) (b := h) (rest := []) (fun (u : Unit) => [(h, .inr (9, [.int (nI now), .int (nI wk), .ref zcoins, .ref zdebt, .ref zfines, .ref zreading, .int (nI rk), .ref zruleYear, .ref zruleWhat, .ref zruleShare, .int (nI k), .ref zstate, .ref zholder, .ref zyearOf, .ref zusedIn, .ref zprojectOf, .ref zwent, .int ii, .int (nI bk), .ref zbidWorks, .ref zbidMany, .ref zbidPrice, .int ac, .int (nI pj), .ref zisFalse, .ref zcutMany, .ref ztonnes, .ref zcosts, .ref zgiven, .ref zcutOff, .ref zgot, .ref zcutsOf, .int sm, .int mg])), (zfines, .inl (cI, 10, .inl FI)), (zstate, .inl (cI, 4000, .inl ST)), (zholder, .inl (cI, 4000, .inl HO))]) hC hA hH (k_X9_holds l D cI cZ h zcoins zdebt zfines zreading zruleYear zruleWhat zruleShare zstate zholder zyearOf zusedIn zprojectOf zwent zbidWorks zbidMany zbidPrice zisFalse zcutMany ztonnes zcosts zgiven zcutOff zgot zcutsOf now wk rk k ii bk ac pj sm mg ST HO (-1) 0 (by decide) (by omega) (by first | assumption | omega)) [0, 2, 3] [1] [1, 0, 2, 3] [(zfines, .inl (cI, 10, .inl FI))] rfl rfl (by decide) (by decide) (fun _ => rfl) rfl gX9_count_X9_holds (by decide +kernel) ⟨Nat.le_of_ble_eq_true rfl, Nat.le_of_ble_eq_true rfl⟩ 0 rfl rfl rfl rfl rfl hl.1 (Nat.le_of_ble_eq_true rfl) ⟨Nat.le_of_ble_eq_true rfl, Nat.le_of_ble_eq_true rfl⟩ dX9_count_91 (fun r3 u H locs hw91 hH => ?_)
    obtain rfl : r3 = nI (cntP (hW ST HO 0) k) := hw91
    have hH := (hH : fx_H zA zs.heap H locs D [(h, .inr (9, [.int (nI now), .int (nI wk), .ref zcoins, .ref zdebt, .ref zfines, .ref zreading, .int (nI rk), .ref zruleYear, .ref zruleWhat, .ref zruleShare, .int (nI k), .ref zstate, .ref zholder, .ref zyearOf, .ref zusedIn, .ref zprojectOf, .ref zwent, .int ii, .int (nI bk), .ref zbidWorks, .ref zbidMany, .ref zbidPrice, .int ac, .int (nI pj), .ref zisFalse, .ref zcutMany, .ref ztonnes, .ref zcosts, .ref zgiven, .ref zcutOff, .ref zgot, .ref zcutsOf, .int sm, .int mg])), (zfines, .inl (cI, 10, .inl FI)), (zstate, .inl (cI, 4000, .inl ST)), (zholder, .inl (cI, 4000, .inl HO))])
    exact fx_iret (v := nI (cntP (hW ST HO 0) k)) hQ hC hr hlk hH dX9_count_94 rfl (Nat.le_of_ble_eq_true rfl) (Nat.le_of_ble_eq_true rfl) (()) rfl (by rw [t3_4]; rfl)
  by_cases t3_5 : t = 5
  · refine lv_tableIn (off := 92) (tgt := 95) zx zy dX9_count_3 (by rw [t3_5]; decide) (by rw [t3_5]; decide) (by rw [t3_5]; rfl) (by decide) ?_
    refine lv_aload_n zx zy dX9_count_95 rfl (lv_at hl 1 rfl) ?_
    refine lv_iconst (v := 1) zx zy dX9_count_96 (by decide) ?_
    refine lv_ldc (own := RX9) (v := (-2147483648)) zx zy hC.1.2.2.2.1 (hC.1.2.2.2.2 _ (by decide +kernel)) dX9_count_97 ?_
    refine fx_cVi (n := 2) (As := [.int 1, .int (-2147483648)]) (b := h) (rest := []) (fun (u : Unit) => [(h, .inr (9, [.int (nI now), .int (nI wk), .ref zcoins, .ref zdebt, .ref zfines, .ref zreading, .int (nI rk), .ref zruleYear, .ref zruleWhat, .ref zruleShare, .int (nI k), .ref zstate, .ref zholder, .ref zyearOf, .ref zusedIn, .ref zprojectOf, .ref zwent, .int ii, .int (nI bk), .ref zbidWorks, .ref zbidMany, .ref zbidPrice, .int ac, .int (nI pj), .ref zisFalse, .ref zcutMany, .ref ztonnes, .ref zcosts, .ref zgiven, .ref zcutOff, .ref zgot, .ref zcutsOf, .int sm, .int mg])), (zfines, .inl (cI, 10, .inl FI)), (zstate, .inl (cI, 4000, .inl ST)), (zholder, .inl (cI, 4000, .inl HO))]) hC hA hH (k_X9_countOf l D cI cZ h zcoins zdebt zfines zreading zruleYear zruleWhat zruleShare zstate zholder zyearOf zusedIn zprojectOf zwent zbidWorks zbidMany zbidPrice zisFalse zcutMany ztonnes zcosts zgiven zcutOff zgot zcutsOf now wk rk k ii bk ac pj sm mg ST HO 1 (-2147483648) (by first | assumption | omega)) [0, 2, 3] [1] [1, 0, 2, 3] [(zfines, .inl (cI, 10, .inl FI))] rfl rfl (by decide) (by decide) (fun _ => rfl) rfl gX9_count_X9_countOf (by decide +kernel) ⟨Nat.le_of_ble_eq_true rfl, Nat.le_of_ble_eq_true rfl⟩ 0 rfl rfl rfl rfl rfl hl.1 (Nat.le_of_ble_eq_true rfl) ⟨Nat.le_of_ble_eq_true rfl, Nat.le_of_ble_eq_true rfl⟩ dX9_count_99 (fun r4 u H locs hw99 hH => ?_)
    obtain rfl : r4 = nI (cntP (cOf ST HO 1 (-2147483648)) k) := hw99
    have hH := (hH : fx_H zA zs.heap H locs D [(h, .inr (9, [.int (nI now), .int (nI wk), .ref zcoins, .ref zdebt, .ref zfines, .ref zreading, .int (nI rk), .ref zruleYear, .ref zruleWhat, .ref zruleShare, .int (nI k), .ref zstate, .ref zholder, .ref zyearOf, .ref zusedIn, .ref zprojectOf, .ref zwent, .int ii, .int (nI bk), .ref zbidWorks, .ref zbidMany, .ref zbidPrice, .int ac, .int (nI pj), .ref zisFalse, .ref zcutMany, .ref ztonnes, .ref zcosts, .ref zgiven, .ref zcutOff, .ref zgot, .ref zcutsOf, .int sm, .int mg])), (zfines, .inl (cI, 10, .inl FI)), (zstate, .inl (cI, 4000, .inl ST)), (zholder, .inl (cI, 4000, .inl HO))])
    exact fx_iret (v := nI (cntP (cOf ST HO 1 (-2147483648)) k)) hQ hC hr hlk hH dX9_count_102 rfl (Nat.le_of_ble_eq_true rfl) (Nat.le_of_ble_eq_true rfl) (()) rfl (by rw [t3_5]; rfl)
  by_cases t3_6 : t = 6
  · refine lv_tableIn (off := 100) (tgt := 103) zx zy dX9_count_3 (by rw [t3_6]; decide) (by rw [t3_6]; decide) (by rw [t3_6]; rfl) (by decide) ?_
    refine lv_aload_n zx zy dX9_count_103 rfl (lv_at hl 1 rfl) ?_
    refine lv_iconst (v := 2) zx zy dX9_count_104 (by decide) ?_
    refine lv_ldc (own := RX9) (v := (-2147483648)) zx zy hC.1.2.2.2.1 (hC.1.2.2.2.2 _ (by decide +kernel)) dX9_count_105 ?_
    refine fx_cVi (n := 2) (As := [.int 2, .int (-2147483648)]) (b := h) (rest := []) (fun (u : Unit) => [(h, .inr (9, [.int (nI now), .int (nI wk), .ref zcoins, .ref zdebt, .ref zfines, .ref zreading, .int (nI rk), .ref zruleYear, .ref zruleWhat, .ref zruleShare, .int (nI k), .ref zstate, .ref zholder, .ref zyearOf, .ref zusedIn, .ref zprojectOf, .ref zwent, .int ii, .int (nI bk), .ref zbidWorks, .ref zbidMany, .ref zbidPrice, .int ac, .int (nI pj), .ref zisFalse, .ref zcutMany, .ref ztonnes, .ref zcosts, .ref zgiven, .ref zcutOff, .ref zgot, .ref zcutsOf, .int sm, .int mg])), (zfines, .inl (cI, 10, .inl FI)), (zstate, .inl (cI, 4000, .inl ST)), (zholder, .inl (cI, 4000, .inl HO))]) hC hA hH (k_X9_countOf l D cI cZ h zcoins zdebt zfines zreading zruleYear zruleWhat zruleShare zstate zholder zyearOf zusedIn zprojectOf zwent zbidWorks zbidMany zbidPrice zisFalse zcutMany ztonnes zcosts zgiven zcutOff zgot zcutsOf now wk rk k ii bk ac pj sm mg ST HO 2 (-2147483648) (by first | assumption | omega)) [0, 2, 3] [1] [1, 0, 2, 3] [(zfines, .inl (cI, 10, .inl FI))] rfl rfl (by decide) (by decide) (fun _ => rfl) rfl gX9_count_X9_countOf (by decide +kernel) ⟨Nat.le_of_ble_eq_true rfl, Nat.le_of_ble_eq_true rfl⟩ 0 rfl rfl rfl rfl rfl hl.1 (Nat.le_of_ble_eq_true rfl) ⟨Nat.le_of_ble_eq_true rfl, Nat.le_of_ble_eq_true rfl⟩ dX9_count_107 (fun r5 u H locs hw107 hH => ?_)
    obtain rfl : r5 = nI (cntP (cOf ST HO 2 (-2147483648)) k) := hw107
    have hH := (hH : fx_H zA zs.heap H locs D [(h, .inr (9, [.int (nI now), .int (nI wk), .ref zcoins, .ref zdebt, .ref zfines, .ref zreading, .int (nI rk), .ref zruleYear, .ref zruleWhat, .ref zruleShare, .int (nI k), .ref zstate, .ref zholder, .ref zyearOf, .ref zusedIn, .ref zprojectOf, .ref zwent, .int ii, .int (nI bk), .ref zbidWorks, .ref zbidMany, .ref zbidPrice, .int ac, .int (nI pj), .ref zisFalse, .ref zcutMany, .ref ztonnes, .ref zcosts, .ref zgiven, .ref zcutOff, .ref zgot, .ref zcutsOf, .int sm, .int mg])), (zfines, .inl (cI, 10, .inl FI)), (zstate, .inl (cI, 4000, .inl ST)), (zholder, .inl (cI, 4000, .inl HO))])
    refine lv_aload_n zx zy dX9_count_110 rfl (lv_at hl 1 rfl) ?_
    refine lv_iconst (v := 3) zx zy dX9_count_111 (by decide) ?_
    refine lv_ldc (own := RX9) (v := (-2147483648)) zx zy hC.1.2.2.2.1 (hC.1.2.2.2.2 _ (by decide +kernel)) dX9_count_112 ?_
    refine fx_cVi (n := 2) (As := [.int 3, .int (-2147483648)]) (b := h) (rest := [.int (nI (cntP (cOf ST HO 2 (-2147483648)) k))]) (fun (u : Unit) => [(h, .inr (9, [.int (nI now), .int (nI wk), .ref zcoins, .ref zdebt, .ref zfines, .ref zreading, .int (nI rk), .ref zruleYear, .ref zruleWhat, .ref zruleShare, .int (nI k), .ref zstate, .ref zholder, .ref zyearOf, .ref zusedIn, .ref zprojectOf, .ref zwent, .int ii, .int (nI bk), .ref zbidWorks, .ref zbidMany, .ref zbidPrice, .int ac, .int (nI pj), .ref zisFalse, .ref zcutMany, .ref ztonnes, .ref zcosts, .ref zgiven, .ref zcutOff, .ref zgot, .ref zcutsOf, .int sm, .int mg])), (zfines, .inl (cI, 10, .inl FI)), (zstate, .inl (cI, 4000, .inl ST)), (zholder, .inl (cI, 4000, .inl HO))]) hC hA hH (k_X9_countOf l D cI cZ h zcoins zdebt zfines zreading zruleYear zruleWhat zruleShare zstate zholder zyearOf zusedIn zprojectOf zwent zbidWorks zbidMany zbidPrice zisFalse zcutMany ztonnes zcosts zgiven zcutOff zgot zcutsOf now wk rk k ii bk ac pj sm mg ST HO 3 (-2147483648) (by first | assumption | omega)) [0, 2, 3] [1] [1, 0, 2, 3] [(zfines, .inl (cI, 10, .inl FI))] rfl rfl (by decide) (by decide) (fun _ => rfl) rfl gX9_count_X9_countOf (by decide +kernel) ⟨Nat.le_of_ble_eq_true rfl, Nat.le_of_ble_eq_true rfl⟩ 0 rfl rfl rfl rfl rfl hl.1 (Nat.le_of_ble_eq_true rfl) ⟨Nat.le_of_ble_eq_true rfl, Nat.le_of_ble_eq_true rfl⟩ dX9_count_114 (fun r6 u H locs hw114 hH => ?_)
    obtain rfl : r6 = nI (cntP (cOf ST HO 3 (-2147483648)) k) := hw114
    have hH := (hH : fx_H zA zs.heap H locs D [(h, .inr (9, [.int (nI now), .int (nI wk), .ref zcoins, .ref zdebt, .ref zfines, .ref zreading, .int (nI rk), .ref zruleYear, .ref zruleWhat, .ref zruleShare, .int (nI k), .ref zstate, .ref zholder, .ref zyearOf, .ref zusedIn, .ref zprojectOf, .ref zwent, .int ii, .int (nI bk), .ref zbidWorks, .ref zbidMany, .ref zbidPrice, .int ac, .int (nI pj), .ref zisFalse, .ref zcutMany, .ref ztonnes, .ref zcosts, .ref zgiven, .ref zcutOff, .ref zgot, .ref zcutsOf, .int sm, .int mg])), (zfines, .inl (cI, 10, .inl FI)), (zstate, .inl (cI, 4000, .inl ST)), (zholder, .inl (cI, 4000, .inl HO))])
    refine lv_iadd zx zy dX9_count_117 ?_
    exact fx_iret (v := (nI (cntP (cOf ST HO 2 (-2147483648)) k)) + (nI (cntP (cOf ST HO 3 (-2147483648)) k))) hQ hC hr hlk hH dX9_count_118 rfl (Nat.le_of_ble_eq_true rfl) (Nat.le_of_ble_eq_true rfl) (()) rfl (by rw [t3_6]; rfl)
  by_cases t3_7 : t = 7
  · refine lv_tableIn (off := 116) (tgt := 119) zx zy dX9_count_3 (by rw [t3_7]; decide) (by rw [t3_7]; decide) (by rw [t3_7]; rfl) (by decide) ?_
    refine lv_aload_n zx zy dX9_count_119 rfl (lv_at hl 1 rfl) ?_
    refine fx_get (C := RX9) (T := TX9) (N := 34) hC (fun _ h => List.mem_cons_of_mem _ (List.mem_append_right _ h)) hH 0 rfl rfl 18 (by decide) (by decide +kernel) rfl dX9_count_120 ?_
    exact fx_iret (v := nI bk) hQ hC hr hlk hH dX9_count_123 rfl (Nat.le_of_ble_eq_true rfl) (Nat.le_of_ble_eq_true rfl) (()) rfl (by rw [t3_7]; rfl)
  by_cases t3_8 : t = 8
  · refine lv_tableIn (off := 121) (tgt := 124) zx zy dX9_count_3 (by rw [t3_8]; decide) (by rw [t3_8]; decide) (by rw [t3_8]; rfl) (by decide) ?_
    refine lv_aload_n zx zy dX9_count_124 rfl (lv_at hl 1 rfl) ?_
    refine fx_get (C := RX9) (T := TX9) (N := 34) hC (fun _ h => List.mem_cons_of_mem _ (List.mem_append_right _ h)) hH 0 rfl rfl 22 (by decide) (by decide +kernel) rfl dX9_count_125 ?_
    exact fx_iret (v := ac) hQ hC hr hlk hH dX9_count_128 rfl (Nat.le_of_ble_eq_true rfl) (Nat.le_of_ble_eq_true rfl) (()) rfl (by rw [t3_8]; rfl)
  by_cases t3_9 : t = 9
  · refine lv_tableIn (off := 126) (tgt := 129) zx zy dX9_count_3 (by rw [t3_9]; decide) (by rw [t3_9]; decide) (by rw [t3_9]; rfl) (by decide) ?_
    refine lv_iconst (v := 0) zx zy dX9_count_129 (by decide) ?_
    refine lv_topi (fun v7 ev7 => ?_)
    obtain rfl : v7 = nI 0 := ev7.trans (rfl)
    refine lv_istore_n (lv' := [(3, .int (nI 0)), (2, .int 0), (0, .ref h), (1, .int t)]) zx zy dX9_count_130 rfl hl (by decide) rfl (fun ls hl => ?_)
    have L131 : ∀ (fu : Nat) (i : Nat) (n : Int32) (hi : i ≤ wk) (hn : n = shS FI i) (H : Heap) (locs : List Loc) (ls : Array Slot), wk - i < fu → fx_H zA zs.heap H locs D [(h, .inr (9, [.int (nI now), .int (nI wk), .ref zcoins, .ref zdebt, .ref zfines, .ref zreading, .int (nI rk), .ref zruleYear, .ref zruleWhat, .ref zruleShare, .int (nI k), .ref zstate, .ref zholder, .ref zyearOf, .ref zusedIn, .ref zprojectOf, .ref zwent, .int ii, .int (nI bk), .ref zbidWorks, .ref zbidMany, .ref zbidPrice, .int ac, .int (nI pj), .ref zisFalse, .ref zcutMany, .ref ztonnes, .ref zcosts, .ref zgiven, .ref zcutOff, .ref zgot, .ref zcutsOf, .int sm, .int mg])), (zfines, .inl (cI, 10, .inl FI)), (zstate, .inl (cI, 4000, .inl ST)), (zholder, .inl (cI, 4000, .inl HO))] → lv_has ls 4 [(0, .ref h), (1, .int t), (2, .int n), (3, .int (nI i))] → W zp l ze ({ frames := 1, cells := 0, slots := 0, locals := 24 }) zs zm za zb zt zc H locs (0) (0) zQ (F0 zm 131 ls []) := by
      intro fu
      induction fu with
      | zero => intro i n hi hn H locs ls hfu; exact absurd hfu (Nat.not_lt_zero _)
      | succ fu ih131 =>
        intro i n hi hn H locs ls hfu131 hH hl
        refine lv_iload_n zx zy dX9_count_131 rfl (lv_at hl 3 rfl) ?_
        refine lv_aload_n zx zy dX9_count_132 rfl (lv_at hl 0 rfl) ?_
        refine fx_get (C := RX9) (T := TX9) (N := 34) hC (fun _ h => List.mem_cons_of_mem _ (List.mem_append_right _ h)) hH 0 rfl rfl 1 (by decide) (by decide +kernel) rfl dX9_count_133 ?_
        refine lv_icmp_ge (tgt := 154) zx zy dX9_count_136 (by decide) (fun c136 => ?_) (fun c136 => ?_)
        · skip
          refine lv_iload_n zx zy dX9_count_154 rfl (lv_at hl 2 rfl) ?_
          exact fx_iret (v := n) hQ hC hr hlk hH dX9_count_155 rfl (Nat.le_of_ble_eq_true rfl) (Nat.le_of_ble_eq_true rfl) (()) rfl (by rw [t3_9, hn, Nat.le_antisymm hi (fx_le_of c136 (by omega) (by omega))]; rfl)
        · skip
          have hlt : i < wk := fx_lt_of c136 (by omega)
          refine lv_iload_n zx zy dX9_count_139 rfl (lv_at hl 2 rfl) ?_
          refine lv_aload_n zx zy dX9_count_140 rfl (lv_at hl 0 rfl) ?_
          refine fx_get (C := RX9) (T := TX9) (N := 34) hC (fun _ h => List.mem_cons_of_mem _ (List.mem_append_right _ h)) hH 0 rfl rfl 4 (by decide) (by decide +kernel) rfl dX9_count_141 ?_
          refine lv_iload_n zx zy dX9_count_144 rfl (lv_at hl 3 rfl) ?_
          refine fx_ild hC hH 1 rfl (vp_in_nI (by omega) (by omega)) dX9_count_145 ?_
          refine lv_topi (fun v8 ev8 => ?_)
          obtain rfl : v8 = FI i := ev8.trans (congrArg FI (nI_clamp (by omega)))
          refine lv_iadd zx zy dX9_count_146 ?_
          refine lv_istore_n (lv' := [(2, .int (n + (FI i))), (0, .ref h), (1, .int t), (3, .int (nI i))]) zx zy dX9_count_147 rfl hl (by decide) rfl (fun ls hl => ?_)
          refine lv_iinc (v := nI (i + 1)) (lv' := [(3, .int (nI (i + 1))), (2, .int (n + (FI i))), (0, .ref h), (1, .int t)]) zx zy dX9_count_148 hl (k := 3) rfl (nI_1 _) (by decide) rfl (fun ls hl => ?_)
          refine lv_goto (tgt := 131) zx zy dX9_count_151 (by decide) ?_
          exact ih131 (i + 1) (n + (FI i)) (by first | assumption | omega) (by subst hn; rfl) _ _ _ (by omega) hH (lv_sub hl [2, 3, 1, 0] rfl)
    exact L131 _ 0 0 (by first | assumption | omega) (rfl) _ _ _ (Nat.lt_succ_self _) hH (lv_sub hl [2, 3, 1, 0] rfl)
  by_cases t3_10 : t = 10
  · refine lv_tableIn (off := 153) (tgt := 156) zx zy dX9_count_3 (by rw [t3_10]; decide) (by rw [t3_10]; decide) (by rw [t3_10]; rfl) (by decide) ?_
    refine lv_aload_n zx zy dX9_count_156 rfl (lv_at hl 1 rfl) ?_
    refine fx_get (C := RX9) (T := TX9) (N := 34) hC (fun _ h => List.mem_cons_of_mem _ (List.mem_append_right _ h)) hH 0 rfl rfl 23 (by decide) (by decide +kernel) rfl dX9_count_157 ?_
    exact fx_iret (v := nI pj) hQ hC hr hlk hH dX9_count_160 rfl (Nat.le_of_ble_eq_true rfl) (Nat.le_of_ble_eq_true rfl) (()) rfl (by rw [t3_10]; rfl)
  refine lv_tableOut (tgt := 161) zx zy dX9_count_3 (by have n0 := lv_neT (a := 0) t3_0 rfl; have n1 := lv_neT (a := 1) t3_1 rfl; have n2 := lv_neT (a := 2) t3_2 rfl; have n3 := lv_neT (a := 3) t3_3 rfl; have n4 := lv_neT (a := 4) t3_4 rfl; have n5 := lv_neT (a := 5) t3_5 rfl; have n6 := lv_neT (a := 6) t3_6 rfl; have n7 := lv_neT (a := 7) t3_7 rfl; have n8 := lv_neT (a := 8) t3_8 rfl; have n9 := lv_neT (a := 9) t3_9 rfl; have n10 := lv_neT (a := 10) t3_10 rfl; omega) (by decide) ?_
  refine lv_iconst (v := (-1)) zx zy dX9_count_161 (by decide) ?_
  exact fx_iret (v := (-1)) hQ hC hr hlk hH dX9_count_162 rfl (Nat.le_of_ble_eq_true rfl) (Nat.le_of_ble_eq_true rfl) (()) rfl ((ctV_else t3_0 t3_1 t3_2 t3_3 t3_4 t3_5 t3_6 t3_7 t3_8 t3_9 t3_10).symm)
