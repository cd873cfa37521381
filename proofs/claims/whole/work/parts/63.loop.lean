theorem law_lt {L i : Nat} (hL : L ≤ 2560) (hi : 5 * i ≤ L + 4) (h : ¬ nI L - 5 < nI (5 * i)) : 5 * i + 5 ≤ L := by
  have e : (nI L - 5).toInt = (L : Int) - 5 := by
    rcases Nat.lt_or_ge L 5 with q | q
    · rcases (show L = 0 ∨ L = 1 ∨ L = 2 ∨ L = 3 ∨ L = 4 by omega) with rfl | rfl | rfl | rfl | rfl <;> decide
    · have e2 : nI L - 5 = nI (L - 5) := by
        have := nI_add (L - 5) 5
        rw [show L - 5 + 5 = L by omega] at this
        rw [← this]
        exact Int32.add_sub_cancel _ _
      rw [e2, nI_toInt (by omega)]; omega
  have h2 : ¬ (nI L - 5).toInt < (nI (5 * i)).toInt := fun q => h (Int32.lt_iff_toInt_lt.mpr q)
  rw [e, nI_toInt (by omega)] at h2
  omega
theorem RA_i {i now wk pj rk k bk ck N : Nat} {iy ii us ca tal efa : Int32} {RY L1 L2 L3 L4 L5 RW RS RD P0 P1 P2 P3 P4 P5 P6 P7 ST HO YO UI PO WE B0 B1 B2 B3 bW bM bP T0 T1 T2 CM TN CS DE E2 FI : Nat → Int32} (h : RA i now wk pj rk k bk ck N iy ii us ca tal efa RY L1 L2 L3 L4 L5 RW RS RD P0 P1 P2 P3 P4 P5 P6 P7 ST HO YO UI PO WE B0 B1 B2 B3 bW bM bP T0 T1 T2 CM TN CS DE E2 FI) : RA (i + 1) now wk pj rk k bk ck N iy ii us ca tal efa RY L1 L2 L3 L4 L5 RW RS RD P0 P1 P2 P3 P4 P5 P6 P7 ST HO YO UI PO WE B0 B1 B2 B3 bW bM bP T0 T1 T2 CM TN CS DE E2 FI := by
  obtain ⟨hnow, hwk, hpj, hkN, hN, hRR, hM, hI, hok, hQ, hB, hCt, hLg⟩ := h
  exact ⟨hnow, hwk, hpj, hkN, hN, hRR, hM, hI, hok, hQ, hB, hCt, relL_i hLg⟩
set_option maxHeartbeats 4000000 in
set_option maxRecDepth 100000 in
theorem law_back {zp : Program} {l : Launch} {ze : Env} {zs : State} {zm : MethodId} {zb : List Frame} {zt : Method} {zc : Code} {D : va_G} {cI cZ : ClassId} {zQ : State → Prop} {zA : Nat → Prop} {b L : Nat} {xs : Nat → Int32} {qx qm : Nat} {qa qb : Nat → Nat} {i : Nat} (hC : fx_Cx zp zs zm #[.ref b] zc code 4 wsL_law RL D cI cZ) (ih : lawK zp l ze zs zm zb zt zc D cI cZ zQ zA b qx qm qa qb (i + 1) 18 (nI (5 * (i + 1)))) : lawK zp l ze zs zm zb zt zc D cI cZ zQ zA b qx qm qa qb (i + 1) 738 (nI (5 * i)) := by
  intro now wk pj rk k bk ck N pa0 pa1 pa2 pa3 pa4 pa5 iy ii us ca ac tal efa sm mg RY L1 L2 L3 L4 L5 RW RS RD P0 P1 P2 P3 P4 P5 P6 P7 ST HO YO UI PO WE O0 O1 O2 GV CU B0 B1 B2 B3 bW bM bP GT T0 T1 T2 CM TN CS CF CO DE E2 FI FP H locs ls hRA hH hl
  have zx := hC.1.1
  have zy := hC.1.2.1
  refine lv_iinc (v := nI (5 * (i + 1))) (lv' := [(3, .int (nI (5 * (i + 1)))), (0, .ref b), (1, .ref qx), (2, .ref qm)]) zx zy dL_law_738 hl (k := 3) rfl (nI_add (5 * i) 5) (by decide) rfl (fun ls hl => ?_)
  refine lv_goto (tgt := 18) zx zy dL_law_741 (by decide) ?_
  exact ih now wk pj rk k bk ck N pa0 pa1 pa2 pa3 pa4 pa5 iy ii us ca ac tal efa sm mg RY L1 L2 L3 L4 L5 RW RS RD P0 P1 P2 P3 P4 P5 P6 P7 ST HO YO UI PO WE O0 O1 O2 GV CU B0 B1 B2 B3 bW bM bP GT T0 T1 T2 CM TN CS CF CO DE E2 FI FP H locs ls hRA hH (lv_sub hl [1, 2, 3, 0] rfl)
set_option maxHeartbeats 4000000 in
set_option maxRecDepth 100000 in
theorem law_loop {zp : Program} {l : Launch} {ze : Env} {zs : State} {zm : MethodId} {zb : List Frame} {zt : Method} {zc : Code} {D : va_G} {cI cZ : ClassId} {zQ : State → Prop} {zA : Nat → Prop} {b L : Nat} {xs : Nat → Int32} {qx qm : Nat} {qa qb : Nat → Nat} (hC : fx_Cx zp zs zm #[.ref b] zc code 4 wsL_law RL D cI cZ) (hA : ∀ q, zs.heap.size ≤ q → zA q) (hz : ∀ q, zA q → zs.heap.size ≤ q) (hX : va_X b L xs zs zs.heap) (hbl : b < zs.heap.size) (hbA : ¬ zA b) (hL : L ≤ 2560) (hr : zt.sig.returnType = ret) (hlocks : zt.locks = false) (hZ : zQ = lw_Z zb #[Value.ref b] zs) : ∀ (fu i : Nat), L + 5 ≤ 5 * i + fu → 5 * i ≤ L + 4 → lawK zp l ze zs zm zb zt zc D cI cZ zQ zA b qx qm qa qb i 18 (nI (5 * i)) := by
  intro fu
  induction fu with
  | zero => intro i h1 h2; exact absurd h1 (by omega)
  | succ fu ih =>
    intro i hfu hi5
    intro now wk pj rk k bk ck N pa0 pa1 pa2 pa3 pa4 pa5 iy ii us ca ac tal efa sm mg RY L1 L2 L3 L4 L5 RW RS RD P0 P1 P2 P3 P4 P5 P6 P7 ST HO YO UI PO WE O0 O1 O2 GV CU B0 B1 B2 B3 bW bM bP GT T0 T1 T2 CM TN CS CF CO DE E2 FI FP H locs ls hRA hH hl
    have zx := hC.1.1
    have zy := hC.1.2.1
    refine lv_iload_n zx zy dL_law_18 rfl (lv_at hl 3 rfl) ?_
    refine lv_aload_n zx zy dL_law_19 rfl (lv_at hl 0 rfl) ?_
    refine va_slen zx zy hX hbl hbA hH.2.2 dL_law_20 ?_
    refine lv_iconst (v := 5) zx zy dL_law_21 (by decide) ?_
    refine lv_isub zx zy dL_law_22 ?_
    refine lv_icmp_gt (tgt := 744) zx zy dL_law_23 (by decide) (fun hc => ?_) (fun hc => ?_)
    · refine lv_iconst (v := 1) zx zy dL_law_744 (by decide) ?_
      refine va_forget (fun q hq => hz _ (hH.2.2.2.2 q hq)) ?_
      have hph := phi_le hRA.2.2.2.2.1
      refine W.widen (k := 600000) (n := 7302249) (by omega) (by omega) ?_
      rw [hZ]
      exact lw_ret zx zy hr hlocks dL_law_745
    · have hi : 5 * i + 5 ≤ L := law_lt hL hi5 hc
      have ihb := law_back (L := L) (xs := xs) hC (ih (i + 1) (by omega) (by omega))
      refine lv_aload_n zx zy dL_law_26 rfl (lv_at hl 0 rfl) ?_
      refine lv_iload_n zx zy dL_law_27 rfl (lv_at hl 3 rfl) ?_
      refine va_sld zx zy hX hbl hbA hH.2.2 (vp_in_nI (show 5 * i < L by omega) (by omega)) dL_law_28 ?_
      refine lv_bipush (v := 31) zx zy dL_law_29 (by decide) ?_
      refine lv_iand zx zy dL_law_31 ?_
      refine lv_topi (fun tv etv => ?_)
      by_cases t0 : tv = 0
      · refine lv_tableIn (off := 96) (tgt := 128) zx zy dL_law_32 (by rw [t0]; decide) (by rw [t0]; decide) (by rw [t0]; rfl) (by decide) ?_
        exact law_works hC hA hX hbl hbA hi hL ihb now wk pj rk k bk ck N pa0 pa1 pa2 pa3 pa4 pa5 iy ii us ca ac tal efa sm mg RY L1 L2 L3 L4 L5 RW RS RD P0 P1 P2 P3 P4 P5 P6 P7 ST HO YO UI PO WE O0 O1 O2 GV CU B0 B1 B2 B3 bW bM bP GT T0 T1 T2 CM TN CS CF CO DE E2 FI FP H locs ls hRA hH hl
      by_cases t1 : tv = 1
      · refine lv_tableIn (off := 109) (tgt := 141) zx zy dL_law_32 (by rw [t1]; decide) (by rw [t1]; decide) (by rw [t1]; rfl) (by decide) ?_
        exact law_rule hC hA hX hbl hbA hi hL ihb now wk pj rk k bk ck N pa0 pa1 pa2 pa3 pa4 pa5 iy ii us ca ac tal efa sm mg RY L1 L2 L3 L4 L5 RW RS RD P0 P1 P2 P3 P4 P5 P6 P7 ST HO YO UI PO WE O0 O1 O2 GV CU B0 B1 B2 B3 bW bM bP GT T0 T1 T2 CM TN CS CF CO DE E2 FI FP H locs ls hRA hH hl
      by_cases t2 : tv = 2
      · refine lv_tableIn (off := 152) (tgt := 184) zx zy dL_law_32 (by rw [t2]; decide) (by rw [t2]; decide) (by rw [t2]; rfl) (by decide) ?_
        exact law_ruled hC hA hX hbl hbA hi hL ihb now wk pj rk k bk ck N pa0 pa1 pa2 pa3 pa4 pa5 iy ii us ca ac tal efa sm mg RY L1 L2 L3 L4 L5 RW RS RD P0 P1 P2 P3 P4 P5 P6 P7 ST HO YO UI PO WE O0 O1 O2 GV CU B0 B1 B2 B3 bW bM bP GT T0 T1 T2 CM TN CS CF CO DE E2 FI FP H locs ls hRA hH hl
      by_cases t3 : tv = 3
      · refine lv_tableIn (off := 185) (tgt := 217) zx zy dL_law_32 (by rw [t3]; decide) (by rw [t3]; decide) (by rw [t3]; rfl) (by decide) ?_
        exact law_meter hC hA hX hbl hbA hi hL ihb now wk pj rk k bk ck N pa0 pa1 pa2 pa3 pa4 pa5 iy ii us ca ac tal efa sm mg RY L1 L2 L3 L4 L5 RW RS RD P0 P1 P2 P3 P4 P5 P6 P7 ST HO YO UI PO WE O0 O1 O2 GV CU B0 B1 B2 B3 bW bM bP GT T0 T1 T2 CM TN CS CF CO DE E2 FI FP H locs ls hRA hH hl
      by_cases t4 : tv = 4
      · refine lv_tableIn (off := 238) (tgt := 270) zx zy dL_law_32 (by rw [t4]; decide) (by rw [t4]; decide) (by rw [t4]; rfl) (by decide) ?_
        exact law_fouled hC hA hX hbl hbA hi hL ihb now wk pj rk k bk ck N pa0 pa1 pa2 pa3 pa4 pa5 iy ii us ca ac tal efa sm mg RY L1 L2 L3 L4 L5 RW RS RD P0 P1 P2 P3 P4 P5 P6 P7 ST HO YO UI PO WE O0 O1 O2 GV CU B0 B1 B2 B3 bW bM bP GT T0 T1 T2 CM TN CS CF CO DE E2 FI FP H locs ls hRA hH hl
      by_cases t5 : tv = 5
      · refine lv_tableIn (off := 271) (tgt := 303) zx zy dL_law_32 (by rw [t5]; decide) (by rw [t5]; decide) (by rw [t5]; rfl) (by decide) ?_
        exact law_issue hC hA hX hbl hbA hi hL ihb now wk pj rk k bk ck N pa0 pa1 pa2 pa3 pa4 pa5 iy ii us ca ac tal efa sm mg RY L1 L2 L3 L4 L5 RW RS RD P0 P1 P2 P3 P4 P5 P6 P7 ST HO YO UI PO WE O0 O1 O2 GV CU B0 B1 B2 B3 bW bM bP GT T0 T1 T2 CM TN CS CF CO DE E2 FI FP H locs ls hRA hH hl
      by_cases t6 : tv = 6
      · refine lv_tableIn (off := 284) (tgt := 316) zx zy dL_law_32 (by rw [t6]; decide) (by rw [t6]; decide) (by rw [t6]; rfl) (by decide) ?_
        exact law_bid hC hA hX hbl hbA hi hL ihb now wk pj rk k bk ck N pa0 pa1 pa2 pa3 pa4 pa5 iy ii us ca ac tal efa sm mg RY L1 L2 L3 L4 L5 RW RS RD P0 P1 P2 P3 P4 P5 P6 P7 ST HO YO UI PO WE O0 O1 O2 GV CU B0 B1 B2 B3 bW bM bP GT T0 T1 T2 CM TN CS CF CO DE E2 FI FP H locs ls hRA hH hl
      by_cases t7 : tv = 7
      · refine lv_tableIn (off := 327) (tgt := 359) zx zy dL_law_32 (by rw [t7]; decide) (by rw [t7]; decide) (by rw [t7]; rfl) (by decide) ?_
        exact law_auction hC hA hX hbl hbA hi hL ihb now wk pj rk k bk ck N pa0 pa1 pa2 pa3 pa4 pa5 iy ii us ca ac tal efa sm mg RY L1 L2 L3 L4 L5 RW RS RD P0 P1 P2 P3 P4 P5 P6 P7 ST HO YO UI PO WE O0 O1 O2 GV CU B0 B1 B2 B3 bW bM bP GT T0 T1 T2 CM TN CS CF CO DE E2 FI FP H locs ls hRA hH hl
      by_cases t8 : tv = 8
      · refine lv_tableIn (off := 340) (tgt := 372) zx zy dL_law_32 (by rw [t8]; decide) (by rw [t8]; decide) (by rw [t8]; rfl) (by decide) ?_
        exact law_trade hC hA hX hbl hbA hi hL ihb now wk pj rk k bk ck N pa0 pa1 pa2 pa3 pa4 pa5 iy ii us ca ac tal efa sm mg RY L1 L2 L3 L4 L5 RW RS RD P0 P1 P2 P3 P4 P5 P6 P7 ST HO YO UI PO WE O0 O1 O2 GV CU B0 B1 B2 B3 bW bM bP GT T0 T1 T2 CM TN CS CF CO DE E2 FI FP H locs ls hRA hH hl
      by_cases t9 : tv = 9
      · refine lv_tableIn (off := 393) (tgt := 425) zx zy dL_law_32 (by rw [t9]; decide) (by rw [t9]; decide) (by rw [t9]; rfl) (by decide) ?_
        exact law_offset hC hA hX hbl hbA hi hL ihb now wk pj rk k bk ck N pa0 pa1 pa2 pa3 pa4 pa5 iy ii us ca ac tal efa sm mg RY L1 L2 L3 L4 L5 RW RS RD P0 P1 P2 P3 P4 P5 P6 P7 ST HO YO UI PO WE O0 O1 O2 GV CU B0 B1 B2 B3 bW bM bP GT T0 T1 T2 CM TN CS CF CO DE E2 FI FP H locs ls hRA hH hl
      by_cases t10 : tv = 10
      · refine lv_tableIn (off := 426) (tgt := 458) zx zy dL_law_32 (by rw [t10]; decide) (by rw [t10]; decide) (by rw [t10]; rfl) (by decide) ?_
        exact law_falses hC hA hX hbl hbA hi hL ihb now wk pj rk k bk ck N pa0 pa1 pa2 pa3 pa4 pa5 iy ii us ca ac tal efa sm mg RY L1 L2 L3 L4 L5 RW RS RD P0 P1 P2 P3 P4 P5 P6 P7 ST HO YO UI PO WE O0 O1 O2 GV CU B0 B1 B2 B3 bW bM bP GT T0 T1 T2 CM TN CS CF CO DE E2 FI FP H locs ls hRA hH hl
      by_cases t11 : tv = 11
      · refine lv_tableIn (off := 449) (tgt := 481) zx zy dL_law_32 (by rw [t11]; decide) (by rw [t11]; decide) (by rw [t11]; rfl) (by decide) ?_
        exact law_cancel hC hA hX hbl hbA hi hL ihb now wk pj rk k bk ck N pa0 pa1 pa2 pa3 pa4 pa5 iy ii us ca ac tal efa sm mg RY L1 L2 L3 L4 L5 RW RS RD P0 P1 P2 P3 P4 P5 P6 P7 ST HO YO UI PO WE O0 O1 O2 GV CU B0 B1 B2 B3 bW bM bP GT T0 T1 T2 CM TN CS CF CO DE E2 FI FP H locs ls hRA hH hl
      by_cases t12 : tv = 12
      · refine lv_tableIn (off := 482) (tgt := 514) zx zy dL_law_32 (by rw [t12]; decide) (by rw [t12]; decide) (by rw [t12]; rfl) (by decide) ?_
        exact law_end hC hA hX hbl hbA hi hL ihb now wk pj rk k bk ck N pa0 pa1 pa2 pa3 pa4 pa5 iy ii us ca ac tal efa sm mg RY L1 L2 L3 L4 L5 RW RS RD P0 P1 P2 P3 P4 P5 P6 P7 ST HO YO UI PO WE O0 O1 O2 GV CU B0 B1 B2 B3 bW bM bP GT T0 T1 T2 CM TN CS CF CO DE E2 FI FP H locs ls hRA hH hl
      by_cases t13 : tv = 13
      · refine lv_tableIn (off := 495) (tgt := 527) zx zy dL_law_32 (by rw [t13]; decide) (by rw [t13]; decide) (by rw [t13]; rfl) (by decide) ?_
        exact law_permit hC hA hX hbl hbA hi hL ihb now wk pj rk k bk ck N pa0 pa1 pa2 pa3 pa4 pa5 iy ii us ca ac tal efa sm mg RY L1 L2 L3 L4 L5 RW RS RD P0 P1 P2 P3 P4 P5 P6 P7 ST HO YO UI PO WE O0 O1 O2 GV CU B0 B1 B2 B3 bW bM bP GT T0 T1 T2 CM TN CS CF CO DE E2 FI FP H locs ls hRA hH hl
      by_cases t14 : tv = 14
      · refine lv_tableIn (off := 528) (tgt := 560) zx zy dL_law_32 (by rw [t14]; decide) (by rw [t14]; decide) (by rw [t14]; rfl) (by decide) ?_
        exact law_told hC hA hX hbl hbA hi hL ihb now wk pj rk k bk ck N pa0 pa1 pa2 pa3 pa4 pa5 iy ii us ca ac tal efa sm mg RY L1 L2 L3 L4 L5 RW RS RD P0 P1 P2 P3 P4 P5 P6 P7 ST HO YO UI PO WE O0 O1 O2 GV CU B0 B1 B2 B3 bW bM bP GT T0 T1 T2 CM TN CS CF CO DE E2 FI FP H locs ls hRA hH hl
      by_cases t15 : tv = 15
      · refine lv_tableIn (off := 561) (tgt := 593) zx zy dL_law_32 (by rw [t15]; decide) (by rw [t15]; decide) (by rw [t15]; rfl) (by decide) ?_
        exact law_cut hC hA hX hbl hbA hi hL ihb now wk pj rk k bk ck N pa0 pa1 pa2 pa3 pa4 pa5 iy ii us ca ac tal efa sm mg RY L1 L2 L3 L4 L5 RW RS RD P0 P1 P2 P3 P4 P5 P6 P7 ST HO YO UI PO WE O0 O1 O2 GV CU B0 B1 B2 B3 bW bM bP GT T0 T1 T2 CM TN CS CF CO DE E2 FI FP H locs ls hRA hH hl
      by_cases t16 : tv = 16
      · refine lv_tableIn (off := 604) (tgt := 636) zx zy dL_law_32 (by rw [t16]; decide) (by rw [t16]; decide) (by rw [t16]; rfl) (by decide) ?_
        exact law_least hC hA hX hbl hbA hi hL ihb now wk pj rk k bk ck N pa0 pa1 pa2 pa3 pa4 pa5 iy ii us ca ac tal efa sm mg RY L1 L2 L3 L4 L5 RW RS RD P0 P1 P2 P3 P4 P5 P6 P7 ST HO YO UI PO WE O0 O1 O2 GV CU B0 B1 B2 B3 bW bM bP GT T0 T1 T2 CM TN CS CF CO DE E2 FI FP H locs ls hRA hH hl
      by_cases t17 : tv = 17
      · refine lv_tableIn (off := 627) (tgt := 659) zx zy dL_law_32 (by rw [t17]; decide) (by rw [t17]; decide) (by rw [t17]; rfl) (by decide) ?_
        exact law_margin hC hA hX hbl hbA hi hL ihb now wk pj rk k bk ck N pa0 pa1 pa2 pa3 pa4 pa5 iy ii us ca ac tal efa sm mg RY L1 L2 L3 L4 L5 RW RS RD P0 P1 P2 P3 P4 P5 P6 P7 ST HO YO UI PO WE O0 O1 O2 GV CU B0 B1 B2 B3 bW bM bP GT T0 T1 T2 CM TN CS CF CO DE E2 FI FP H locs ls hRA hH hl
      by_cases t18 : tv = 18
      · refine lv_tableIn (off := 650) (tgt := 682) zx zy dL_law_32 (by rw [t18]; decide) (by rw [t18]; decide) (by rw [t18]; rfl) (by decide) ?_
        exact law_cuts hC hA hX hbl hbA hi hL ihb now wk pj rk k bk ck N pa0 pa1 pa2 pa3 pa4 pa5 iy ii us ca ac tal efa sm mg RY L1 L2 L3 L4 L5 RW RS RD P0 P1 P2 P3 P4 P5 P6 P7 ST HO YO UI PO WE O0 O1 O2 GV CU B0 B1 B2 B3 bW bM bP GT T0 T1 T2 CM TN CS CF CO DE E2 FI FP H locs ls hRA hH hl
      by_cases t19 : tv = 19
      · refine lv_tableIn (off := 683) (tgt := 715) zx zy dL_law_32 (by rw [t19]; decide) (by rw [t19]; decide) (by rw [t19]; rfl) (by decide) ?_
        exact law_count hC hA hX hbl hbA hi hL ihb now wk pj rk k bk ck N pa0 pa1 pa2 pa3 pa4 pa5 iy ii us ca ac tal efa sm mg RY L1 L2 L3 L4 L5 RW RS RD P0 P1 P2 P3 P4 P5 P6 P7 ST HO YO UI PO WE O0 O1 O2 GV CU B0 B1 B2 B3 bW bM bP GT T0 T1 T2 CM TN CS CF CO DE E2 FI FP H locs ls hRA hH hl
      refine lv_tableOut (tgt := 738) zx zy dL_law_32 (by have n0 := lv_neT (a := 0) t0 rfl; have n1 := lv_neT (a := 1) t1 rfl; have n2 := lv_neT (a := 2) t2 rfl; have n3 := lv_neT (a := 3) t3 rfl; have n4 := lv_neT (a := 4) t4 rfl; have n5 := lv_neT (a := 5) t5 rfl; have n6 := lv_neT (a := 6) t6 rfl; have n7 := lv_neT (a := 7) t7 rfl; have n8 := lv_neT (a := 8) t8 rfl; have n9 := lv_neT (a := 9) t9 rfl; have n10 := lv_neT (a := 10) t10 rfl; have n11 := lv_neT (a := 11) t11 rfl; have n12 := lv_neT (a := 12) t12 rfl; have n13 := lv_neT (a := 13) t13 rfl; have n14 := lv_neT (a := 14) t14 rfl; have n15 := lv_neT (a := 15) t15 rfl; have n16 := lv_neT (a := 16) t16 rfl; have n17 := lv_neT (a := 17) t17 rfl; have n18 := lv_neT (a := 18) t18 rfl; have n19 := lv_neT (a := 19) t19 rfl; omega) (by decide) ?_
      exact ihb now wk pj rk k bk ck N pa0 pa1 pa2 pa3 pa4 pa5 iy ii us ca ac tal efa sm mg RY L1 L2 L3 L4 L5 RW RS RD P0 P1 P2 P3 P4 P5 P6 P7 ST HO YO UI PO WE O0 O1 O2 GV CU B0 B1 B2 B3 bW bM bP GT T0 T1 T2 CM TN CS CF CO DE E2 FI FP H locs ls (RA_i hRA) hH hl
