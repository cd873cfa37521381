def grQ (f : Nat → Int32) (b : Nat) : Nat → Int32
  | 0 => -1
  | q + 1 => if grQ f b q < f (b + q) then f (b + q) else grQ f b q
def grV (f : Nat → Int32) (w : Nat) (y : Int32) : Int32 := if y < 0 then -1 else grQ f ((w * 20 + y.toNatClampNeg) * 4) 4
def gapT (f : Nat → Int32) (w y : Nat) : Int32 := if grV f w (nI y) < grV f w (nI y - 1) then grV f w (nI y - 1) else grV f w (nI y)
def gapV (f : Nat → Int32) (w y : Nat) : Int32 := if gapT f w y = -1 then 10 else if 1 < (gapT f w y * 110 + 99) / 100 then (gapT f w y * 110 + 99) / 100 else 1
def fouS (f : Nat → Int32) (g : Int32) (b : Nat) : Nat → Int32
  | 0 => 0
  | q + 1 => fouS f g b q + (if f (b + q) = -1 then g else f (b + q))
/-- what a works fouled in a year -/
def fouV (f : Nat → Int32) (w y : Nat) : Int32 := fouS f (gapV f w y) ((w * 20 + y) * 4) 4
theorem pl_nI (w y q : Nat) : (nI w * 20 + nI y) * 4 + nI q = nI ((w * 20 + y) * 4 + q) := by
  show (nI w * nI 20 + nI y) * nI 4 + nI q = _
  rw [pk_mul, nI_add, pk_mul, nI_add]
theorem pl_y {y : Int32} (h : ¬ y < 0) (w q : Nat) : (nI w * 20 + y) * 4 + nI q = nI ((w * 20 + y.toNatClampNeg) * 4 + q) := by
  obtain ⟨j, hj, rfl⟩ := nI_of h
  rw [nI_clamp hj]
  exact pl_nI w j q
theorem ym1_lt {y : Nat} (h : y < 20) : (nI y - 1).toNatClampNeg < 20 := by
  cases y with
  | zero => decide
  | succ y => rw [nI_pred, nI_clamp (by omega)]; omega
theorem rAdd_nI {n : Nat} {f : Nat → Int32} {k : Nat} {x : Int32} (h : k < n) (hn : n < 2 ^ 31) : rPut n f (nI k) (rAt n f (nI k) + x) = upd f k (f k + x) := by
  rw [rPut_nI h hn, rAt_nI h hn]
set_option maxHeartbeats 4000000 in
set_option maxRecDepth 100000 in
theorem k_X4_place (l : Launch) (D : va_G) (cI cZ : ClassId) (w : Int32) (y : Int32) (q : Int32) : fx_CI l D cI cZ yX4_place wsX4_place ({ frames := 0, cells := 0, slots := 0, locals := 0 }) [.int w, .int y, .int q] [] (fun (u : Unit) => []) (fun (r : Int32) (u : Unit) => r = (w * 20 + y) * 4 + q) := by
  refine fx_CI.of (ws' := (wsX4_place).tail) cX4_place 3 (by decide) rfl (Nat.le_of_ble_eq_true rfl) ?_
  intro zp ze zs zm za zb zt zc zA ls zQ hQ hC hr hlk hA hH hl
  have zx := hC.1.1
  have zy := hC.1.2.1
  have hl : lv_has ls 3 [(0, .int w), (1, .int y), (2, .int q)] := hl
  refine lv_iload_n zx zy dX4_place_0 rfl (lv_at hl 0 rfl) ?_
  refine lv_bipush (v := 20) zx zy dX4_place_1 (by decide) ?_
  refine lv_imul zx zy dX4_place_3 ?_
  refine lv_iload_n zx zy dX4_place_4 rfl (lv_at hl 1 rfl) ?_
  refine lv_iadd zx zy dX4_place_5 ?_
  refine lv_iconst (v := 4) zx zy dX4_place_6 (by decide) ?_
  refine lv_imul zx zy dX4_place_7 ?_
  refine lv_iload_n zx zy dX4_place_8 rfl (lv_at hl 2 rfl) ?_
  refine lv_iadd zx zy dX4_place_9 ?_
  exact fx_iret (v := (((w * 20) + y) * 4) + q) hQ hC hr hlk hH dX4_place_10 rfl (Nat.le_of_ble_eq_true rfl) (Nat.le_of_ble_eq_true rfl) (()) rfl (rfl)
set_option maxHeartbeats 4000000 in
set_option maxRecDepth 100000 in
theorem k_X4_read (l : Launch) (D : va_G) (cI cZ : ClassId) (h : Nat) (r : Nat) (a : Nat) (f : Nat → Int32) (w : Nat) (y : Nat) (q : Nat) (x : Int32) (hw : w < 10) (hy : y < 20) (hq : q < 4) : fx_CV l D cI cZ yX4_read wsX4_read ({ frames := 1, cells := 0, slots := 0, locals := 22 }) [.ref h, .int (nI w), .int (nI y), .int (nI q), .int x] [(h, .inr (4, [.ref r])), (r, .inr (6, [.ref a])), (a, .inl (cI, 800, .inl f))] (fun (u : (Nat → Int32)) => [(h, .inr (4, [.ref r])), (r, .inr (6, [.ref a])), (a, .inl (cI, 800, .inl u))]) (fun (u : (Nat → Int32)) => u = upd f ((w * 20 + y) * 4 + q) x) := by
  refine fx_CV.of (ws' := (wsX4_read).tail) cX4_read 5 (by decide) rfl (Nat.le_of_ble_eq_true rfl) ?_
  intro zp ze zs zm za zb zt zc zA ls zQ hQ hC hr hlk hnm hA hH hl
  have zx := hC.1.1
  have zy := hC.1.2.1
  have hl : lv_has ls 5 [(0, .ref h), (1, .int (nI w)), (2, .int (nI y)), (3, .int (nI q)), (4, .int x)] := hl
  refine lv_aload_n zx zy dX4_read_0 rfl (lv_at hl 0 rfl) ?_
  refine fx_get (C := RX4) (T := TX4) (N := 1) hC (fun _ h => List.mem_cons_of_mem _ (List.mem_append_left _ (List.mem_append_right _ h))) hH 0 rfl rfl 0 (by decide) (by decide +kernel) rfl dX4_read_1 ?_
  refine lv_iload_n zx zy dX4_read_4 rfl (lv_at hl 1 rfl) ?_
  refine lv_iload_n zx zy dX4_read_5 rfl (lv_at hl 2 rfl) ?_
  refine lv_iload_n zx zy dX4_read_6 rfl (lv_at hl 3 rfl) ?_
  refine fx_cSi (n := 3) (As := [.int (nI w), .int (nI y), .int (nI q)]) (rest := [.ref r]) hC hA hH (k_X4_place l D cI cZ (nI w) (nI y) (nI q)) ⟨rfl, rfl⟩ rfl gX4_read_X4_place (by decide +kernel) ⟨Nat.le_of_ble_eq_true rfl, Nat.le_of_ble_eq_true rfl⟩ rfl rfl hl.1 (Nat.le_of_ble_eq_true rfl) ⟨(Nat.le_of_ble_eq_true rfl), (Nat.le_of_ble_eq_true rfl)⟩ dX4_read_7 (fun r1 H locs hw7 hH => ?_)
  obtain rfl : r1 = ((nI w) * 20 + (nI y)) * 4 + (nI q) := hw7
  refine lv_topi (fun v2 ev2 => ?_)
  obtain rfl : v2 = nI ((w * 20 + y) * 4 + q) := ev2.trans (pl_nI w y q)
  refine lv_iload zx zy dX4_read_10 (lv_at hl 4 rfl) ?_
  refine fx_cVv (n := 2) (As := [.int (nI ((w * 20 + y) * 4 + q)), .int x]) (b := r) (rest := []) (fun (u : (Nat → Int32)) => [(h, .inr (4, [.ref r])), (r, .inr (6, [.ref a])), (a, .inl (cI, 800, .inl u))]) hC hA hH (k_X6_put l D cI cZ r a 800 f (nI ((w * 20 + y) * 4 + q)) x (by first | assumption | omega)) [1, 2] [0] [0, 1, 2] [(h, .inr (4, [.ref r]))] rfl rfl (by decide) (by decide) (fun _ => rfl) rfl gX4_read_X6_put (by decide +kernel) ⟨Nat.le_of_ble_eq_true rfl, Nat.le_of_ble_eq_true rfl⟩ 0 rfl rfl rfl rfl rfl hl.1 (Nat.le_of_ble_eq_true rfl) ⟨Nat.le_of_ble_eq_true rfl, Nat.le_of_ble_eq_true rfl⟩ dX4_read_12 (fun u H locs hw12 hH => ?_)
  obtain ⟨u4, rfl⟩ : ∃ z, z = u := ⟨_, rfl⟩
  obtain rfl : u4 = rPut 800 f (nI ((w * 20 + y) * 4 + q)) x := hw12
  have hH := (hH : fx_H zA zs.heap H locs D [(h, .inr (4, [.ref r])), (r, .inr (6, [.ref a])), (a, .inl (cI, 800, .inl (rPut 800 f (nI ((w * 20 + y) * 4 + q)) x)))])
  rw [show (rPut 800 f (nI ((w * 20 + y) * 4 + q)) x : Nat → Int32) = upd f ((w * 20 + y) * 4 + q) x from rPut_nI (by omega) (by omega)] at hH
  exact fx_vret hQ hC hr hlk hH dX4_read_15 (Nat.le_of_ble_eq_true rfl) (Nat.le_of_ble_eq_true rfl) (upd f ((w * 20 + y) * 4 + q) x) rfl (rfl)
set_option maxHeartbeats 4000000 in
set_option maxRecDepth 100000 in
theorem k_X4_greatest (l : Launch) (D : va_G) (cI cZ : ClassId) (h : Nat) (r : Nat) (a : Nat) (f : Nat → Int32) (w : Nat) (y : Int32) (hw : w < 10) (hy : y.toNatClampNeg < 20) : fx_CI l D cI cZ yX4_greatest wsX4_greatest ({ frames := 1, cells := 0, slots := 0, locals := 24 }) [.ref h, .int (nI w), .int y] [(h, .inr (4, [.ref r])), (r, .inr (6, [.ref a])), (a, .inl (cI, 800, .inl f))] (fun (u : Unit) => [(h, .inr (4, [.ref r])), (r, .inr (6, [.ref a])), (a, .inl (cI, 800, .inl f))]) (fun (r : Int32) (u : Unit) => r = grV f w y) := by
  refine fx_CI.of (ws' := (wsX4_greatest).tail) cX4_greatest 5 (by decide) rfl (Nat.le_of_ble_eq_true rfl) ?_
  intro zp ze zs zm za zb zt zc zA ls zQ hQ hC hr hlk hA hH hl
  have zx := hC.1.1
  have zy := hC.1.2.1
  have hl : lv_has ls 5 [(0, .ref h), (1, .int (nI w)), (2, .int y)] := hl
  refine lv_iconst (v := (-1)) zx zy dX4_greatest_0 (by decide) ?_
  refine lv_istore_n (lv' := [(3, .int (-1)), (0, .ref h), (1, .int (nI w)), (2, .int y)]) zx zy dX4_greatest_1 rfl hl (by decide) rfl (fun ls hl => ?_)
  refine lv_iconst (v := 0) zx zy dX4_greatest_2 (by decide) ?_
  refine lv_topi (fun v1 ev1 => ?_)
  obtain rfl : v1 = nI 0 := ev1.trans (rfl)
  refine lv_istore (lv' := [(4, .int (nI 0)), (3, .int (-1)), (0, .ref h), (1, .int (nI w)), (2, .int y)]) zx zy dX4_greatest_3 hl (by decide) rfl (fun ls hl => ?_)
  have L5 : ∀ (fu : Nat) (q : Nat) (t : Int32) (hq : q ≤ 4) (ht : t = grQ f ((w * 20 + y.toNatClampNeg) * 4) q) (hy0 : y < 0 → q = 0) (H : Heap) (locs : List Loc) (ls : Array Slot), 4 - q < fu → fx_H zA zs.heap H locs D [(h, .inr (4, [.ref r])), (r, .inr (6, [.ref a])), (a, .inl (cI, 800, .inl f))] → lv_has ls 5 [(0, .ref h), (1, .int (nI w)), (2, .int y), (3, .int t), (4, .int (nI q))] → W zp l ze ({ frames := 1, cells := 0, slots := 0, locals := 24 }) zs zm za zb zt zc H locs (0) (0) zQ (F0 zm 5 ls []) := by
    intro fu
    induction fu with
    | zero => intro q t hq ht hy0 H locs ls hfu; exact absurd hfu (Nat.not_lt_zero _)
    | succ fu ih5 =>
      intro q t hq ht hy0 H locs ls hfu5 hH hl
      refine lv_iload zx zy dX4_greatest_5 (lv_at hl 4 rfl) ?_
      refine lv_iconst (v := 4) zx zy dX4_greatest_7 (by decide) ?_
      refine lv_icmp_ge (tgt := 40) zx zy dX4_greatest_8 (by decide) (fun c8 => ?_) (fun c8 => ?_)
      · skip
        have hq4 : q = 4 := Nat.le_antisymm hq (fx_le_of (a := 4) c8 (by omega) (by omega))
        refine lv_iload_n zx zy dX4_greatest_40 rfl (lv_at hl 3 rfl) ?_
        exact fx_iret (v := t) hQ hC hr hlk hH dX4_greatest_41 rfl (Nat.le_of_ble_eq_true rfl) (Nat.le_of_ble_eq_true rfl) (()) rfl (by first | exact (by rw [ht, hy0 c12]; exact (if_pos c12).symm) | exact (by rw [ht, hq4]; exact (if_neg (fun h => absurd (hy0 h) (by omega))).symm))
      · skip
        have hlt : q < 4 := fx_lt_of (b := 4) c8 (by omega)
        refine lv_iload_n zx zy dX4_greatest_11 rfl (lv_at hl 2 rfl) ?_
        refine lv_if_lt (tgt := 40) zx zy dX4_greatest_12 (by decide) (fun c12 => ?_) (fun c12 => ?_)
        · skip
          refine lv_iload_n zx zy dX4_greatest_40 rfl (lv_at hl 3 rfl) ?_
          exact fx_iret (v := t) hQ hC hr hlk hH dX4_greatest_41 rfl (Nat.le_of_ble_eq_true rfl) (Nat.le_of_ble_eq_true rfl) (()) rfl (by first | exact (by rw [ht, hy0 c12]; exact (if_pos c12).symm) | exact (by rw [ht, hq4]; exact (if_neg (fun h => absurd (hy0 h) (by omega))).symm))
        · skip
          refine lv_iload_n zx zy dX4_greatest_15 rfl (lv_at hl 3 rfl) ?_
          refine lv_aload_n zx zy dX4_greatest_16 rfl (lv_at hl 0 rfl) ?_
          refine fx_get (C := RX4) (T := TX4) (N := 1) hC (fun _ h => List.mem_cons_of_mem _ (List.mem_append_left _ (List.mem_append_right _ h))) hH 0 rfl rfl 0 (by decide) (by decide +kernel) rfl dX4_greatest_17 ?_
          refine lv_iload_n zx zy dX4_greatest_20 rfl (lv_at hl 1 rfl) ?_
          refine lv_iload_n zx zy dX4_greatest_21 rfl (lv_at hl 2 rfl) ?_
          refine lv_iload zx zy dX4_greatest_22 (lv_at hl 4 rfl) ?_
          refine fx_cSi (n := 3) (As := [.int (nI w), .int y, .int (nI q)]) (rest := [.ref r, .int t]) hC hA hH (k_X4_place l D cI cZ (nI w) y (nI q)) ⟨rfl, rfl⟩ rfl gX4_greatest_X4_place (by decide +kernel) ⟨Nat.le_of_ble_eq_true rfl, Nat.le_of_ble_eq_true rfl⟩ rfl rfl hl.1 (Nat.le_of_ble_eq_true rfl) ⟨(Nat.le_of_ble_eq_true rfl), (Nat.le_of_ble_eq_true rfl)⟩ dX4_greatest_24 (fun r2 H locs hw24 hH => ?_)
          obtain rfl : r2 = ((nI w) * 20 + y) * 4 + (nI q) := hw24
          refine lv_topi (fun v3 ev3 => ?_)
          obtain rfl : v3 = nI ((w * 20 + y.toNatClampNeg) * 4 + q) := ev3.trans (pl_y c12 w q)
          refine fx_cVi (n := 1) (As := [.int (nI ((w * 20 + y.toNatClampNeg) * 4 + q))]) (b := r) (rest := [.int t]) (fun (u : Unit) => [(h, .inr (4, [.ref r])), (r, .inr (6, [.ref a])), (a, .inl (cI, 800, .inl f))]) hC hA hH (k_X6_at l D cI cZ r a 800 f (nI ((w * 20 + y.toNatClampNeg) * 4 + q)) (by first | assumption | omega)) [1, 2] [0] [0, 1, 2] [(h, .inr (4, [.ref r]))] rfl rfl (by decide) (by decide) (fun _ => rfl) rfl gX4_greatest_X6_at (by decide +kernel) ⟨Nat.le_of_ble_eq_true rfl, Nat.le_of_ble_eq_true rfl⟩ 0 rfl rfl rfl rfl rfl hl.1 (Nat.le_of_ble_eq_true rfl) ⟨Nat.le_of_ble_eq_true rfl, Nat.le_of_ble_eq_true rfl⟩ dX4_greatest_27 (fun r4 u H locs hw27 hH => ?_)
          obtain rfl : r4 = rAt 800 f (nI ((w * 20 + y.toNatClampNeg) * 4 + q)) := hw27
          have hH := (hH : fx_H zA zs.heap H locs D [(h, .inr (4, [.ref r])), (r, .inr (6, [.ref a])), (a, .inl (cI, 800, .inl f))])
          refine lv_topi (fun v5 ev5 => ?_)
          obtain rfl : v5 = f ((w * 20 + y.toNatClampNeg) * 4 + q) := ev5.trans (rAt_nI (by omega) (by omega))
          refine fx_max hC hl.1 (by decide +kernel) (Nat.le_of_ble_eq_true rfl) (Nat.le_of_ble_eq_true rfl) (Nat.le_of_ble_eq_true rfl) (Nat.le_of_ble_eq_true rfl) dX4_greatest_30 ?_
          refine lv_istore_n (lv' := [(3, .int (if t < f ((w * 20 + y.toNatClampNeg) * 4 + q) then f ((w * 20 + y.toNatClampNeg) * 4 + q) else t)), (0, .ref h), (1, .int (nI w)), (2, .int y), (4, .int (nI q))]) zx zy dX4_greatest_33 rfl hl (by decide) rfl (fun ls hl => ?_)
          refine lv_iinc (v := nI (q + 1)) (lv' := [(4, .int (nI (q + 1))), (3, .int (if t < f ((w * 20 + y.toNatClampNeg) * 4 + q) then f ((w * 20 + y.toNatClampNeg) * 4 + q) else t)), (0, .ref h), (1, .int (nI w)), (2, .int y)]) zx zy dX4_greatest_34 hl (k := 4) rfl (nI_1 _) (by decide) rfl (fun ls hl => ?_)
          refine lv_goto (tgt := 5) zx zy dX4_greatest_37 (by decide) ?_
          exact ih5 (q + 1) (if t < f ((w * 20 + y.toNatClampNeg) * 4 + q) then f ((w * 20 + y.toNatClampNeg) * 4 + q) else t) (by first | assumption | omega) (by subst ht; rfl) (fun h => absurd h c12) _ _ _ (by omega) hH (lv_sub hl [2, 3, 4, 1, 0] rfl)
  exact L5 _ 0 (-1) (by first | assumption | omega) (rfl) (fun _ => rfl) _ _ _ (Nat.lt_succ_self _) hH (lv_sub hl [2, 3, 4, 1, 0] rfl)
set_option maxHeartbeats 4000000 in
set_option maxRecDepth 100000 in
theorem k_X4_gapIn (l : Launch) (D : va_G) (cI cZ : ClassId) (h : Nat) (r : Nat) (a : Nat) (f : Nat → Int32) (w : Nat) (y : Nat) (hw : w < 10) (hy : y < 20) : fx_CI l D cI cZ yX4_gapIn wsX4_gapIn ({ frames := 2, cells := 0, slots := 0, locals := 48 }) [.ref h, .int (nI w), .int (nI y)] [(h, .inr (4, [.ref r])), (r, .inr (6, [.ref a])), (a, .inl (cI, 800, .inl f))] (fun (u : Unit) => [(h, .inr (4, [.ref r])), (r, .inr (6, [.ref a])), (a, .inl (cI, 800, .inl f))]) (fun (r : Int32) (u : Unit) => r = gapV f w y) := by
  refine fx_CI.of (ws' := (wsX4_gapIn).tail) cX4_gapIn 4 (by decide) rfl (Nat.le_of_ble_eq_true rfl) ?_
  intro zp ze zs zm za zb zt zc zA ls zQ hQ hC hr hlk hA hH hl
  have zx := hC.1.1
  have zy := hC.1.2.1
  have hl : lv_has ls 4 [(0, .ref h), (1, .int (nI w)), (2, .int (nI y))] := hl
  refine lv_aload_n zx zy dX4_gapIn_0 rfl (lv_at hl 0 rfl) ?_
  refine lv_iload_n zx zy dX4_gapIn_1 rfl (lv_at hl 1 rfl) ?_
  refine lv_iload_n zx zy dX4_gapIn_2 rfl (lv_at hl 2 rfl) ?_
  refine fx_cVi (n := 2) (As := [.int (nI w), .int (nI y)]) (b := h) (rest := []) (fun (u : Unit) => [(h, .inr (4, [.ref r])), (r, .inr (6, [.ref a])), (a, .inl (cI, 800, .inl f))]) hC hA hH (k_X4_greatest l D cI cZ h r a f w (nI y) (by first | assumption | omega) (by rw [nI_clamp (by omega)]; omega)) [0, 1, 2] [] [0, 1, 2] [] rfl rfl (by decide) (by decide) (fun _ => rfl) rfl gX4_gapIn_X4_greatest (by decide +kernel) ⟨Nat.le_of_ble_eq_true rfl, Nat.le_of_ble_eq_true rfl⟩ 0 rfl rfl rfl rfl rfl hl.1 (Nat.le_of_ble_eq_true rfl) ⟨Nat.le_of_ble_eq_true rfl, Nat.le_of_ble_eq_true rfl⟩ dX4_gapIn_3 (fun r1 u H locs hw3 hH => ?_)
  obtain rfl : r1 = grV f w (nI y) := hw3
  have hH := (hH : fx_H zA zs.heap H locs D [(h, .inr (4, [.ref r])), (r, .inr (6, [.ref a])), (a, .inl (cI, 800, .inl f))])
  refine lv_aload_n zx zy dX4_gapIn_6 rfl (lv_at hl 0 rfl) ?_
  refine lv_iload_n zx zy dX4_gapIn_7 rfl (lv_at hl 1 rfl) ?_
  refine lv_iload_n zx zy dX4_gapIn_8 rfl (lv_at hl 2 rfl) ?_
  refine lv_iconst (v := 1) zx zy dX4_gapIn_9 (by decide) ?_
  refine lv_isub zx zy dX4_gapIn_10 ?_
  refine fx_cVi (n := 2) (As := [.int (nI w), .int ((nI y) - 1)]) (b := h) (rest := [.int (grV f w (nI y))]) (fun (u : Unit) => [(h, .inr (4, [.ref r])), (r, .inr (6, [.ref a])), (a, .inl (cI, 800, .inl f))]) hC hA hH (k_X4_greatest l D cI cZ h r a f w ((nI y) - 1) (by first | assumption | omega) (ym1_lt hy)) [0, 1, 2] [] [0, 1, 2] [] rfl rfl (by decide) (by decide) (fun _ => rfl) rfl gX4_gapIn_X4_greatest (by decide +kernel) ⟨Nat.le_of_ble_eq_true rfl, Nat.le_of_ble_eq_true rfl⟩ 0 rfl rfl rfl rfl rfl hl.1 (Nat.le_of_ble_eq_true rfl) ⟨Nat.le_of_ble_eq_true rfl, Nat.le_of_ble_eq_true rfl⟩ dX4_gapIn_11 (fun r2 u H locs hw11 hH => ?_)
  obtain rfl : r2 = grV f w ((nI y) - 1) := hw11
  have hH := (hH : fx_H zA zs.heap H locs D [(h, .inr (4, [.ref r])), (r, .inr (6, [.ref a])), (a, .inl (cI, 800, .inl f))])
  refine fx_max hC hl.1 (by decide +kernel) (Nat.le_of_ble_eq_true rfl) (Nat.le_of_ble_eq_true rfl) (Nat.le_of_ble_eq_true rfl) (Nat.le_of_ble_eq_true rfl) dX4_gapIn_14 ?_
  refine lv_topi (fun v3 ev3 => ?_)
  obtain rfl : v3 = gapT f w y := ev3.trans (rfl)
  refine lv_istore_n (lv' := [(3, .int (gapT f w y)), (0, .ref h), (1, .int (nI w)), (2, .int (nI y))]) zx zy dX4_gapIn_17 rfl hl (by decide) rfl (fun ls hl => ?_)
  refine lv_iload_n zx zy dX4_gapIn_18 rfl (lv_at hl 0 rfl) ?_
  refine lv_iconst (v := (-1)) zx zy dX4_gapIn_19 (by decide) ?_
  refine lv_icmp_ne (tgt := 28) zx zy dX4_gapIn_20 (by decide) (fun c20 => ?_) (fun c20 => ?_)
  · skip
    refine lv_iconst (v := 1) zx zy dX4_gapIn_28 (by decide) ?_
    refine lv_iload_n zx zy dX4_gapIn_29 rfl (lv_at hl 0 rfl) ?_
    refine lv_bipush (v := 110) zx zy dX4_gapIn_30 (by decide) ?_
    refine lv_imul zx zy dX4_gapIn_32 ?_
    refine lv_bipush (v := 99) zx zy dX4_gapIn_33 (by decide) ?_
    refine lv_iadd zx zy dX4_gapIn_35 ?_
    refine lv_bipush (v := 100) zx zy dX4_gapIn_36 (by decide) ?_
    refine lv_idiv zx zy dX4_gapIn_38 (by decide) ?_
    refine fx_max hC hl.1 (by decide +kernel) (Nat.le_of_ble_eq_true rfl) (Nat.le_of_ble_eq_true rfl) (Nat.le_of_ble_eq_true rfl) (Nat.le_of_ble_eq_true rfl) dX4_gapIn_39 ?_
    exact fx_iret (v := if 1 < (((gapT f w y) * 110) + 99) / 100 then (((gapT f w y) * 110) + 99) / 100 else 1) hQ hC hr hlk hH dX4_gapIn_42 rfl (Nat.le_of_ble_eq_true rfl) (Nat.le_of_ble_eq_true rfl) (()) rfl (by first | exact (if_pos c20).symm | exact (if_neg c20).symm)
  · skip
    refine lv_bipush (v := 10) zx zy dX4_gapIn_23 (by decide) ?_
    refine lv_goto (tgt := 42) zx zy dX4_gapIn_25 (by decide) ?_
    exact fx_iret (v := 10) hQ hC hr hlk hH dX4_gapIn_42 rfl (Nat.le_of_ble_eq_true rfl) (Nat.le_of_ble_eq_true rfl) (()) rfl (by first | exact (if_pos c20).symm | exact (if_neg c20).symm)
set_option maxHeartbeats 4000000 in
set_option maxRecDepth 100000 in
theorem k_X4_fouledIn (l : Launch) (D : va_G) (cI cZ : ClassId) (h : Nat) (r : Nat) (a : Nat) (f : Nat → Int32) (w : Nat) (y : Nat) (hw : w < 10) (hy : y < 20) : fx_CI l D cI cZ yX4_fouledIn wsX4_fouledIn ({ frames := 3, cells := 0, slots := 0, locals := 71 }) [.ref h, .int (nI w), .int (nI y)] [(h, .inr (4, [.ref r])), (r, .inr (6, [.ref a])), (a, .inl (cI, 800, .inl f))] (fun (u : Unit) => [(h, .inr (4, [.ref r])), (r, .inr (6, [.ref a])), (a, .inl (cI, 800, .inl f))]) (fun (r : Int32) (u : Unit) => r = fouV f w y) := by
  refine fx_CI.of (ws' := (wsX4_fouledIn).tail) cX4_fouledIn 7 (by decide) rfl (Nat.le_of_ble_eq_true rfl) ?_
  intro zp ze zs zm za zb zt zc zA ls zQ hQ hC hr hlk hA hH hl
  have zx := hC.1.1
  have zy := hC.1.2.1
  have hl : lv_has ls 7 [(0, .ref h), (1, .int (nI w)), (2, .int (nI y))] := hl
  refine lv_aload_n zx zy dX4_fouledIn_0 rfl (lv_at hl 0 rfl) ?_
  refine lv_iload_n zx zy dX4_fouledIn_1 rfl (lv_at hl 1 rfl) ?_
  refine lv_iload_n zx zy dX4_fouledIn_2 rfl (lv_at hl 2 rfl) ?_
  refine fx_cVi (n := 2) (As := [.int (nI w), .int (nI y)]) (b := h) (rest := []) (fun (u : Unit) => [(h, .inr (4, [.ref r])), (r, .inr (6, [.ref a])), (a, .inl (cI, 800, .inl f))]) hC hA hH (k_X4_gapIn l D cI cZ h r a f w y (by first | assumption | omega) (by first | assumption | omega)) [0, 1, 2] [] [0, 1, 2] [] rfl rfl (by decide) (by decide) (fun _ => rfl) rfl gX4_fouledIn_X4_gapIn (by decide +kernel) ⟨Nat.le_of_ble_eq_true rfl, Nat.le_of_ble_eq_true rfl⟩ 0 rfl rfl rfl rfl rfl hl.1 (Nat.le_of_ble_eq_true rfl) ⟨Nat.le_of_ble_eq_true rfl, Nat.le_of_ble_eq_true rfl⟩ dX4_fouledIn_3 (fun r1 u H locs hw3 hH => ?_)
  obtain rfl : r1 = gapV f w y := hw3
  have hH := (hH : fx_H zA zs.heap H locs D [(h, .inr (4, [.ref r])), (r, .inr (6, [.ref a])), (a, .inl (cI, 800, .inl f))])
  refine lv_istore_n (lv' := [(3, .int (gapV f w y)), (0, .ref h), (1, .int (nI w)), (2, .int (nI y))]) zx zy dX4_fouledIn_6 rfl hl (by decide) rfl (fun ls hl => ?_)
  refine lv_iconst (v := 0) zx zy dX4_fouledIn_7 (by decide) ?_
  refine lv_istore (lv' := [(4, .int 0), (3, .int (gapV f w y)), (0, .ref h), (1, .int (nI w)), (2, .int (nI y))]) zx zy dX4_fouledIn_8 hl (by decide) rfl (fun ls hl => ?_)
  refine lv_iconst (v := 0) zx zy dX4_fouledIn_10 (by decide) ?_
  refine lv_topi (fun v2 ev2 => ?_)
  obtain rfl : v2 = nI 0 := ev2.trans (rfl)
  refine lv_istore (lv' := [(5, .int (nI 0)), (4, .int 0), (3, .int (gapV f w y)), (0, .ref h), (1, .int (nI w)), (2, .int (nI y))]) zx zy dX4_fouledIn_11 hl (by decide) rfl (fun ls hl => ?_)
  have L13 : ∀ (fu : Nat) (q : Nat) (sm : Int32) (hq : q ≤ 4) (hs : sm = fouS f (gapV f w y) ((w * 20 + y) * 4) q) (H : Heap) (locs : List Loc) (ls : Array Slot), 4 - q < fu → fx_H zA zs.heap H locs D [(h, .inr (4, [.ref r])), (r, .inr (6, [.ref a])), (a, .inl (cI, 800, .inl f))] → lv_has ls 7 [(0, .ref h), (1, .int (nI w)), (2, .int (nI y)), (3, .int (gapV f w y)), (4, .int sm), (5, .int (nI q))] → W zp l ze ({ frames := 3, cells := 0, slots := 0, locals := 71 }) zs zm za zb zt zc H locs (0) (0) zQ (F0 zm 13 ls []) := by
    intro fu
    induction fu with
    | zero => intro q sm hq hs H locs ls hfu; exact absurd hfu (Nat.not_lt_zero _)
    | succ fu ih13 =>
      intro q sm hq hs H locs ls hfu13 hH hl
      refine lv_iload zx zy dX4_fouledIn_13 (lv_at hl 5 rfl) ?_
      refine lv_iconst (v := 4) zx zy dX4_fouledIn_15 (by decide) ?_
      refine lv_icmp_ge (tgt := 58) zx zy dX4_fouledIn_16 (by decide) (fun c16 => ?_) (fun c16 => ?_)
      · skip
        have hq4 : q = 4 := Nat.le_antisymm hq (fx_le_of (a := 4) c16 (by omega) (by omega))
        refine lv_iload zx zy dX4_fouledIn_58 (lv_at hl 4 rfl) ?_
        exact fx_iret (v := sm) hQ hC hr hlk hH dX4_fouledIn_60 rfl (Nat.le_of_ble_eq_true rfl) (Nat.le_of_ble_eq_true rfl) (()) rfl (by rw [hs, hq4]; rfl)
      · skip
        have hlt : q < 4 := fx_lt_of (b := 4) c16 (by omega)
        refine lv_aload_n zx zy dX4_fouledIn_19 rfl (lv_at hl 0 rfl) ?_
        refine fx_get (C := RX4) (T := TX4) (N := 1) hC (fun _ h => List.mem_cons_of_mem _ (List.mem_append_left _ (List.mem_append_right _ h))) hH 0 rfl rfl 0 (by decide) (by decide +kernel) rfl dX4_fouledIn_20 ?_
        refine lv_iload_n zx zy dX4_fouledIn_23 rfl (lv_at hl 1 rfl) ?_
        refine lv_iload_n zx zy dX4_fouledIn_24 rfl (lv_at hl 2 rfl) ?_
        refine lv_iload zx zy dX4_fouledIn_25 (lv_at hl 5 rfl) ?_
        refine fx_cSi (n := 3) (As := [.int (nI w), .int (nI y), .int (nI q)]) (rest := [.ref r]) hC hA hH (k_X4_place l D cI cZ (nI w) (nI y) (nI q)) ⟨rfl, rfl⟩ rfl gX4_fouledIn_X4_place (by decide +kernel) ⟨Nat.le_of_ble_eq_true rfl, Nat.le_of_ble_eq_true rfl⟩ rfl rfl hl.1 (Nat.le_of_ble_eq_true rfl) ⟨(Nat.le_of_ble_eq_true rfl), (Nat.le_of_ble_eq_true rfl)⟩ dX4_fouledIn_27 (fun r3 H locs hw27 hH => ?_)
        obtain rfl : r3 = ((nI w) * 20 + (nI y)) * 4 + (nI q) := hw27
        refine lv_topi (fun v4 ev4 => ?_)
        obtain rfl : v4 = nI ((w * 20 + y) * 4 + q) := ev4.trans (pl_nI w y q)
        refine fx_cVi (n := 1) (As := [.int (nI ((w * 20 + y) * 4 + q))]) (b := r) (rest := []) (fun (u : Unit) => [(h, .inr (4, [.ref r])), (r, .inr (6, [.ref a])), (a, .inl (cI, 800, .inl f))]) hC hA hH (k_X6_at l D cI cZ r a 800 f (nI ((w * 20 + y) * 4 + q)) (by first | assumption | omega)) [1, 2] [0] [0, 1, 2] [(h, .inr (4, [.ref r]))] rfl rfl (by decide) (by decide) (fun _ => rfl) rfl gX4_fouledIn_X6_at (by decide +kernel) ⟨Nat.le_of_ble_eq_true rfl, Nat.le_of_ble_eq_true rfl⟩ 0 rfl rfl rfl rfl rfl hl.1 (Nat.le_of_ble_eq_true rfl) ⟨Nat.le_of_ble_eq_true rfl, Nat.le_of_ble_eq_true rfl⟩ dX4_fouledIn_30 (fun r5 u H locs hw30 hH => ?_)
        obtain rfl : r5 = rAt 800 f (nI ((w * 20 + y) * 4 + q)) := hw30
        have hH := (hH : fx_H zA zs.heap H locs D [(h, .inr (4, [.ref r])), (r, .inr (6, [.ref a])), (a, .inl (cI, 800, .inl f))])
        refine lv_topi (fun v6 ev6 => ?_)
        obtain rfl : v6 = f ((w * 20 + y) * 4 + q) := ev6.trans (rAt_nI (by omega) (by omega))
        refine lv_istore (lv' := [(6, .int (f ((w * 20 + y) * 4 + q))), (0, .ref h), (1, .int (nI w)), (2, .int (nI y)), (3, .int (gapV f w y)), (4, .int sm), (5, .int (nI q))]) zx zy dX4_fouledIn_33 hl (by decide) rfl (fun ls hl => ?_)
        refine lv_iload zx zy dX4_fouledIn_35 (lv_at hl 5 rfl) ?_
        refine lv_iload zx zy dX4_fouledIn_37 (lv_at hl 0 rfl) ?_
        refine lv_iconst (v := (-1)) zx zy dX4_fouledIn_39 (by decide) ?_
        refine lv_icmp_ne (tgt := 47) zx zy dX4_fouledIn_40 (by decide) (fun c40 => ?_) (fun c40 => ?_)
        · skip
          refine lv_iload zx zy dX4_fouledIn_47 (lv_at hl 0 rfl) ?_
          refine lv_iadd zx zy dX4_fouledIn_49 ?_
          refine lv_istore (lv' := [(4, .int (sm + (f ((w * 20 + y) * 4 + q)))), (6, .int (f ((w * 20 + y) * 4 + q))), (0, .ref h), (1, .int (nI w)), (2, .int (nI y)), (3, .int (gapV f w y)), (5, .int (nI q))]) zx zy dX4_fouledIn_50 hl (by decide) rfl (fun ls hl => ?_)
          refine lv_iinc (v := nI (q + 1)) (lv' := [(5, .int (nI (q + 1))), (4, .int (sm + (f ((w * 20 + y) * 4 + q)))), (6, .int (f ((w * 20 + y) * 4 + q))), (0, .ref h), (1, .int (nI w)), (2, .int (nI y)), (3, .int (gapV f w y))]) zx zy dX4_fouledIn_52 hl (k := 6) rfl (nI_1 _) (by decide) rfl (fun ls hl => ?_)
          refine lv_goto (tgt := 13) zx zy dX4_fouledIn_55 (by decide) ?_
          exact ih13 (q + 1) (sm + (f ((w * 20 + y) * 4 + q))) (by first | assumption | omega) (by subst hs; first | (simp only [fouS, if_pos c40]; done) | (simp only [fouS, if_neg c40]; done)) _ _ _ (by omega) hH (lv_sub hl [3, 4, 5, 6, 1, 0] rfl)
        · skip
          refine lv_iload_n zx zy dX4_fouledIn_43 rfl (lv_at hl 4 rfl) ?_
          refine lv_goto (tgt := 49) zx zy dX4_fouledIn_44 (by decide) ?_
          refine lv_iadd zx zy dX4_fouledIn_49 ?_
          refine lv_istore (lv' := [(4, .int (sm + (gapV f w y))), (6, .int (f ((w * 20 + y) * 4 + q))), (0, .ref h), (1, .int (nI w)), (2, .int (nI y)), (3, .int (gapV f w y)), (5, .int (nI q))]) zx zy dX4_fouledIn_50 hl (by decide) rfl (fun ls hl => ?_)
          refine lv_iinc (v := nI (q + 1)) (lv' := [(5, .int (nI (q + 1))), (4, .int (sm + (gapV f w y))), (6, .int (f ((w * 20 + y) * 4 + q))), (0, .ref h), (1, .int (nI w)), (2, .int (nI y)), (3, .int (gapV f w y))]) zx zy dX4_fouledIn_52 hl (k := 6) rfl (nI_1 _) (by decide) rfl (fun ls hl => ?_)
          refine lv_goto (tgt := 13) zx zy dX4_fouledIn_55 (by decide) ?_
          exact ih13 (q + 1) (sm + (gapV f w y)) (by first | assumption | omega) (by subst hs; first | (simp only [fouS, if_pos c40]; done) | (simp only [fouS, if_neg c40]; done)) _ _ _ (by omega) hH (lv_sub hl [3, 4, 5, 6, 1, 0] rfl)
  exact L13 _ 0 0 (by first | assumption | omega) (rfl) _ _ _ (Nat.lt_succ_self _) hH (lv_sub hl [3, 4, 5, 2, 1, 0] rfl)
