def lgF (c d u f t : Int32) : Int32 := if t = 0 then c else if t = 1 then d else if t = 3 then u else if t = 4 then f else -2147483648
theorem lgF_else {c d u f t : Int32} (h0 : ¬ t = 0) (h1 : ¬ t = 1) (h3 : ¬ t = 3) (h4 : ¬ t = 4) : lgF c d u f t = -2147483648 := by
  unfold lgF; rw [if_neg h0, if_neg h1, if_neg h3, if_neg h4]
set_option maxHeartbeats 4000000 in
set_option maxRecDepth 100000 in
theorem k_X3_earn (l : Launch) (D : va_G) (cI cZ : ClassId) (h : Nat) (r0 : Nat) (r1 : Nat) (r2 : Nat) (r3 : Nat) (fa : Int32) (a0 : Nat) (f0 : Nat → Int32) (w : Nat) (x : Int32) (hw : w < 10) : fx_CV l D cI cZ yX3_earn wsX3_earn ({ frames := 2, cells := 0, slots := 0, locals := 44 }) [.ref h, .int (nI w), .int x] [(h, .inr (3, [.ref r0, .ref r1, .ref r2, .ref r3, .int fa])), (r0, .inr (6, [.ref a0])), (a0, .inl (cI, 10, .inl f0))] (fun (u : (Nat → Int32)) => [(h, .inr (3, [.ref r0, .ref r1, .ref r2, .ref r3, .int fa])), (r0, .inr (6, [.ref a0])), (a0, .inl (cI, 10, .inl u))]) (fun (u : (Nat → Int32)) => u = upd f0 w (f0 w + x)) := by
  refine fx_CV.of (ws' := (wsX3_earn).tail) cX3_earn 3 (by decide) rfl (Nat.le_of_ble_eq_true rfl) ?_
  intro zp ze zs zm za zb zt zc zA ls zQ hQ hC hr hlk hnm hA hH hl
  have zx := hC.1.1
  have zy := hC.1.2.1
  have hl : lv_has ls 3 [(0, .ref h), (1, .int (nI w)), (2, .int x)] := hl
  refine lv_aload_n zx zy dX3_earn_0 rfl (lv_at hl 0 rfl) ?_
  refine fx_get (C := RX3) (T := TX3) (N := 5) hC (fun _ h => List.mem_cons_of_mem _ (List.mem_append_left _ (List.mem_append_right _ h))) hH 0 rfl rfl 0 (by decide) (by decide +kernel) rfl dX3_earn_1 ?_
  refine lv_iload_n zx zy dX3_earn_4 rfl (lv_at hl 1 rfl) ?_
  refine lv_iload_n zx zy dX3_earn_5 rfl (lv_at hl 2 rfl) ?_
  refine fx_cVv (n := 2) (As := [.int (nI w), .int x]) (b := r0) (rest := []) (fun (u : (Nat → Int32)) => [(h, .inr (3, [.ref r0, .ref r1, .ref r2, .ref r3, .int fa])), (r0, .inr (6, [.ref a0])), (a0, .inl (cI, 10, .inl u))]) hC hA hH (k_X6_add l D cI cZ r0 a0 10 f0 (nI w) x (by first | assumption | omega)) [1, 2] [0] [0, 1, 2] [(h, .inr (3, [.ref r0, .ref r1, .ref r2, .ref r3, .int fa]))] rfl rfl (by decide) (by decide) (fun _ => rfl) rfl gX3_earn_X6_add (by decide +kernel) ⟨Nat.le_of_ble_eq_true rfl, Nat.le_of_ble_eq_true rfl⟩ 0 rfl rfl rfl rfl rfl hl.1 (Nat.le_of_ble_eq_true rfl) ⟨Nat.le_of_ble_eq_true rfl, Nat.le_of_ble_eq_true rfl⟩ dX3_earn_6 (fun u H locs hw6 hH => ?_)
  obtain ⟨u2, rfl⟩ : ∃ z, z = u := ⟨_, rfl⟩
  obtain rfl : u2 = rPut 10 f0 (nI w) (rAt 10 f0 (nI w) + x) := hw6
  have hH := (hH : fx_H zA zs.heap H locs D [(h, .inr (3, [.ref r0, .ref r1, .ref r2, .ref r3, .int fa])), (r0, .inr (6, [.ref a0])), (a0, .inl (cI, 10, .inl (rPut 10 f0 (nI w) (rAt 10 f0 (nI w) + x))))])
  rw [show (rPut 10 f0 (nI w) (rAt 10 f0 (nI w) + x) : Nat → Int32) = upd f0 w (f0 w + x) from rAdd_nI hw (by omega)] at hH
  exact fx_vret hQ hC hr hlk hH dX3_earn_9 (Nat.le_of_ble_eq_true rfl) (Nat.le_of_ble_eq_true rfl) (upd f0 w (f0 w + x)) rfl (rfl)
set_option maxHeartbeats 4000000 in
set_option maxRecDepth 100000 in
theorem k_X3_owe (l : Launch) (D : va_G) (cI cZ : ClassId) (h : Nat) (r0 : Nat) (r1 : Nat) (r2 : Nat) (r3 : Nat) (fa : Int32) (a1 : Nat) (f1 : Nat → Int32) (w : Nat) (x : Int32) (hw : w < 10) : fx_CV l D cI cZ yX3_owe wsX3_owe ({ frames := 2, cells := 0, slots := 0, locals := 44 }) [.ref h, .int (nI w), .int x] [(h, .inr (3, [.ref r0, .ref r1, .ref r2, .ref r3, .int fa])), (r1, .inr (6, [.ref a1])), (a1, .inl (cI, 10, .inl f1))] (fun (u : (Nat → Int32)) => [(h, .inr (3, [.ref r0, .ref r1, .ref r2, .ref r3, .int fa])), (r1, .inr (6, [.ref a1])), (a1, .inl (cI, 10, .inl u))]) (fun (u : (Nat → Int32)) => u = upd f1 w (f1 w + x)) := by
  refine fx_CV.of (ws' := (wsX3_owe).tail) cX3_owe 3 (by decide) rfl (Nat.le_of_ble_eq_true rfl) ?_
  intro zp ze zs zm za zb zt zc zA ls zQ hQ hC hr hlk hnm hA hH hl
  have zx := hC.1.1
  have zy := hC.1.2.1
  have hl : lv_has ls 3 [(0, .ref h), (1, .int (nI w)), (2, .int x)] := hl
  refine lv_aload_n zx zy dX3_owe_0 rfl (lv_at hl 0 rfl) ?_
  refine fx_get (C := RX3) (T := TX3) (N := 5) hC (fun _ h => List.mem_cons_of_mem _ (List.mem_append_left _ (List.mem_append_right _ h))) hH 0 rfl rfl 1 (by decide) (by decide +kernel) rfl dX3_owe_1 ?_
  refine lv_iload_n zx zy dX3_owe_4 rfl (lv_at hl 1 rfl) ?_
  refine lv_iload_n zx zy dX3_owe_5 rfl (lv_at hl 2 rfl) ?_
  refine fx_cVv (n := 2) (As := [.int (nI w), .int x]) (b := r1) (rest := []) (fun (u : (Nat → Int32)) => [(h, .inr (3, [.ref r0, .ref r1, .ref r2, .ref r3, .int fa])), (r1, .inr (6, [.ref a1])), (a1, .inl (cI, 10, .inl u))]) hC hA hH (k_X6_add l D cI cZ r1 a1 10 f1 (nI w) x (by first | assumption | omega)) [1, 2] [0] [0, 1, 2] [(h, .inr (3, [.ref r0, .ref r1, .ref r2, .ref r3, .int fa]))] rfl rfl (by decide) (by decide) (fun _ => rfl) rfl gX3_owe_X6_add (by decide +kernel) ⟨Nat.le_of_ble_eq_true rfl, Nat.le_of_ble_eq_true rfl⟩ 0 rfl rfl rfl rfl rfl hl.1 (Nat.le_of_ble_eq_true rfl) ⟨Nat.le_of_ble_eq_true rfl, Nat.le_of_ble_eq_true rfl⟩ dX3_owe_6 (fun u H locs hw6 hH => ?_)
  obtain ⟨u2, rfl⟩ : ∃ z, z = u := ⟨_, rfl⟩
  obtain rfl : u2 = rPut 10 f1 (nI w) (rAt 10 f1 (nI w) + x) := hw6
  have hH := (hH : fx_H zA zs.heap H locs D [(h, .inr (3, [.ref r0, .ref r1, .ref r2, .ref r3, .int fa])), (r1, .inr (6, [.ref a1])), (a1, .inl (cI, 10, .inl (rPut 10 f1 (nI w) (rAt 10 f1 (nI w) + x))))])
  rw [show (rPut 10 f1 (nI w) (rAt 10 f1 (nI w) + x) : Nat → Int32) = upd f1 w (f1 w + x) from rAdd_nI hw (by omega)] at hH
  exact fx_vret hQ hC hr hlk hH dX3_owe_9 (Nat.le_of_ble_eq_true rfl) (Nat.le_of_ble_eq_true rfl) (upd f1 w (f1 w + x)) rfl (rfl)
set_option maxHeartbeats 4000000 in
set_option maxRecDepth 100000 in
theorem k_X3_close (l : Launch) (D : va_G) (cI cZ : ClassId) (h : Nat) (r0 : Nat) (r1 : Nat) (r2 : Nat) (r3 : Nat) (fa : Int32) (a0 : Nat) (a1 : Nat) (a2 : Nat) (a3 : Nat) (f0 : Nat → Int32) (f1 : Nat → Int32) (f2 : Nat → Int32) (f3 : Nat → Int32) (w : Nat) (us : Int32) (la : Int32) (fi : Int32) (hw : w < 10) : fx_CV l D cI cZ yX3_close wsX3_close ({ frames := 2, cells := 0, slots := 0, locals := 44 }) [.ref h, .int (nI w), .int us, .int la, .int fi] [(h, .inr (3, [.ref r0, .ref r1, .ref r2, .ref r3, .int fa])), (r0, .inr (6, [.ref a0])), (a0, .inl (cI, 10, .inl f0)), (r1, .inr (6, [.ref a1])), (a1, .inl (cI, 10, .inl f1)), (r2, .inr (6, [.ref a2])), (a2, .inl (cI, 10, .inl f2)), (r3, .inr (6, [.ref a3])), (a3, .inl (cI, 10, .inl f3))] (fun (u : (Nat → Int32) × (Nat → Int32) × (Nat → Int32) × (Nat → Int32) × (Int32)) => [(h, .inr (3, [.ref r0, .ref r1, .ref r2, .ref r3, .int u.2.2.2.2])), (r0, .inr (6, [.ref a0])), (a0, .inl (cI, 10, .inl u.1)), (r1, .inr (6, [.ref a1])), (a1, .inl (cI, 10, .inl u.2.1)), (r2, .inr (6, [.ref a2])), (a2, .inl (cI, 10, .inl u.2.2.1)), (r3, .inr (6, [.ref a3])), (a3, .inl (cI, 10, .inl u.2.2.2.1))]) (fun (u : (Nat → Int32) × (Nat → Int32) × (Nat → Int32) × (Nat → Int32) × (Int32)) => u.1 = upd f0 w (f0 w + (-la) * fi) ∧ u.2.1 = upd f1 w la ∧ u.2.2.1 = upd f2 w (f2 w + us) ∧ u.2.2.2.1 = upd f3 w (f3 w + la * fi) ∧ u.2.2.2.2 = fa + la * fi) := by
  refine fx_CV.of (ws' := (wsX3_close).tail) cX3_close 5 (by decide) rfl (Nat.le_of_ble_eq_true rfl) ?_
  intro zp ze zs zm za zb zt zc zA ls zQ hQ hC hr hlk hnm hA hH hl
  have zx := hC.1.1
  have zy := hC.1.2.1
  have hl : lv_has ls 5 [(0, .ref h), (1, .int (nI w)), (2, .int us), (3, .int la), (4, .int fi)] := hl
  refine lv_aload_n zx zy dX3_close_0 rfl (lv_at hl 0 rfl) ?_
  refine fx_get (C := RX3) (T := TX3) (N := 5) hC (fun _ h => List.mem_cons_of_mem _ (List.mem_append_left _ (List.mem_append_right _ h))) hH 0 rfl rfl 0 (by decide) (by decide +kernel) rfl dX3_close_1 ?_
  refine lv_iload_n zx zy dX3_close_4 rfl (lv_at hl 1 rfl) ?_
  refine lv_iload_n zx zy dX3_close_5 rfl (lv_at hl 3 rfl) ?_
  refine lv_ineg zx zy dX3_close_6 ?_
  refine lv_iload zx zy dX3_close_7 (lv_at hl 4 rfl) ?_
  refine lv_imul zx zy dX3_close_9 ?_
  refine fx_cVv (n := 2) (As := [.int (nI w), .int ((-la) * fi)]) (b := r0) (rest := []) (fun (u : (Nat → Int32)) => [(h, .inr (3, [.ref r0, .ref r1, .ref r2, .ref r3, .int fa])), (r0, .inr (6, [.ref a0])), (a0, .inl (cI, 10, .inl u)), (r1, .inr (6, [.ref a1])), (a1, .inl (cI, 10, .inl f1)), (r2, .inr (6, [.ref a2])), (a2, .inl (cI, 10, .inl f2)), (r3, .inr (6, [.ref a3])), (a3, .inl (cI, 10, .inl f3))]) hC hA hH (k_X6_add l D cI cZ r0 a0 10 f0 (nI w) ((-la) * fi) (by first | assumption | omega)) [1, 2] [0, 3, 4, 5, 6, 7, 8] [0, 7, 8, 1, 2, 3, 4, 5, 6] [(h, .inr (3, [.ref r0, .ref r1, .ref r2, .ref r3, .int fa])), (r1, .inr (6, [.ref a1])), (a1, .inl (cI, 10, .inl f1)), (r2, .inr (6, [.ref a2])), (a2, .inl (cI, 10, .inl f2)), (r3, .inr (6, [.ref a3])), (a3, .inl (cI, 10, .inl f3))] rfl rfl (by decide) (by decide) (fun _ => rfl) rfl gX3_close_X6_add (by decide +kernel) ⟨Nat.le_of_ble_eq_true rfl, Nat.le_of_ble_eq_true rfl⟩ 0 rfl rfl rfl rfl rfl hl.1 (Nat.le_of_ble_eq_true rfl) ⟨Nat.le_of_ble_eq_true rfl, Nat.le_of_ble_eq_true rfl⟩ dX3_close_10 (fun u H locs hw10 hH => ?_)
  obtain ⟨u2, rfl⟩ : ∃ z, z = u := ⟨_, rfl⟩
  obtain rfl : u2 = rPut 10 f0 (nI w) (rAt 10 f0 (nI w) + ((-la) * fi)) := hw10
  have hH := (hH : fx_H zA zs.heap H locs D [(h, .inr (3, [.ref r0, .ref r1, .ref r2, .ref r3, .int fa])), (r0, .inr (6, [.ref a0])), (a0, .inl (cI, 10, .inl (rPut 10 f0 (nI w) (rAt 10 f0 (nI w) + ((-la) * fi))))), (r1, .inr (6, [.ref a1])), (a1, .inl (cI, 10, .inl f1)), (r2, .inr (6, [.ref a2])), (a2, .inl (cI, 10, .inl f2)), (r3, .inr (6, [.ref a3])), (a3, .inl (cI, 10, .inl f3))])
  rw [show (rPut 10 f0 (nI w) (rAt 10 f0 (nI w) + ((-la) * fi)) : Nat → Int32) = upd f0 w (f0 w + (-la) * fi) from rAdd_nI hw (by omega)] at hH
  refine lv_aload_n zx zy dX3_close_13 rfl (lv_at hl 0 rfl) ?_
  refine fx_get (C := RX3) (T := TX3) (N := 5) hC (fun _ h => List.mem_cons_of_mem _ (List.mem_append_left _ (List.mem_append_right _ h))) hH 0 rfl rfl 3 (by decide) (by decide +kernel) rfl dX3_close_14 ?_
  refine lv_iload_n zx zy dX3_close_17 rfl (lv_at hl 1 rfl) ?_
  refine lv_iload_n zx zy dX3_close_18 rfl (lv_at hl 3 rfl) ?_
  refine lv_iload zx zy dX3_close_19 (lv_at hl 4 rfl) ?_
  refine lv_imul zx zy dX3_close_21 ?_
  refine fx_cVv (n := 2) (As := [.int (nI w), .int (la * fi)]) (b := r3) (rest := []) (fun (u : (Nat → Int32)) => [(h, .inr (3, [.ref r0, .ref r1, .ref r2, .ref r3, .int fa])), (r0, .inr (6, [.ref a0])), (a0, .inl (cI, 10, .inl (upd f0 w (f0 w + (-la) * fi)))), (r1, .inr (6, [.ref a1])), (a1, .inl (cI, 10, .inl f1)), (r2, .inr (6, [.ref a2])), (a2, .inl (cI, 10, .inl f2)), (r3, .inr (6, [.ref a3])), (a3, .inl (cI, 10, .inl u))]) hC hA hH (k_X6_add l D cI cZ r3 a3 10 f3 (nI w) (la * fi) (by first | assumption | omega)) [7, 8] [0, 1, 2, 3, 4, 5, 6] [0, 1, 2, 3, 4, 5, 6, 7, 8] [(h, .inr (3, [.ref r0, .ref r1, .ref r2, .ref r3, .int fa])), (r0, .inr (6, [.ref a0])), (a0, .inl (cI, 10, .inl (upd f0 w (f0 w + (-la) * fi)))), (r1, .inr (6, [.ref a1])), (a1, .inl (cI, 10, .inl f1)), (r2, .inr (6, [.ref a2])), (a2, .inl (cI, 10, .inl f2))] rfl rfl (by decide) (by decide) (fun _ => rfl) rfl gX3_close_X6_add (by decide +kernel) ⟨Nat.le_of_ble_eq_true rfl, Nat.le_of_ble_eq_true rfl⟩ 0 rfl rfl rfl rfl rfl hl.1 (Nat.le_of_ble_eq_true rfl) ⟨Nat.le_of_ble_eq_true rfl, Nat.le_of_ble_eq_true rfl⟩ dX3_close_22 (fun u H locs hw22 hH => ?_)
  obtain ⟨u4, rfl⟩ : ∃ z, z = u := ⟨_, rfl⟩
  obtain rfl : u4 = rPut 10 f3 (nI w) (rAt 10 f3 (nI w) + (la * fi)) := hw22
  have hH := (hH : fx_H zA zs.heap H locs D [(h, .inr (3, [.ref r0, .ref r1, .ref r2, .ref r3, .int fa])), (r0, .inr (6, [.ref a0])), (a0, .inl (cI, 10, .inl (upd f0 w (f0 w + (-la) * fi)))), (r1, .inr (6, [.ref a1])), (a1, .inl (cI, 10, .inl f1)), (r2, .inr (6, [.ref a2])), (a2, .inl (cI, 10, .inl f2)), (r3, .inr (6, [.ref a3])), (a3, .inl (cI, 10, .inl (rPut 10 f3 (nI w) (rAt 10 f3 (nI w) + (la * fi)))))])
  rw [show (rPut 10 f3 (nI w) (rAt 10 f3 (nI w) + (la * fi)) : Nat → Int32) = upd f3 w (f3 w + la * fi) from rAdd_nI hw (by omega)] at hH
  refine lv_aload_n zx zy dX3_close_25 rfl (lv_at hl 0 rfl) ?_
  refine lv_dup zx zy dX3_close_26 rfl ?_
  refine fx_get (C := RX3) (T := TX3) (N := 5) hC (fun _ h => List.mem_cons_of_mem _ (List.mem_append_left _ (List.mem_append_right _ h))) hH 0 rfl rfl 4 (by decide) (by decide +kernel) rfl dX3_close_27 ?_
  refine lv_iload_n zx zy dX3_close_30 rfl (lv_at hl 3 rfl) ?_
  refine lv_iload zx zy dX3_close_31 (lv_at hl 4 rfl) ?_
  refine lv_imul zx zy dX3_close_33 ?_
  refine lv_iadd zx zy dX3_close_34 ?_
  refine fx_put (C := RX3) (T := TX3) (N := 5) (ty := .int) (ws2 := [(h, .inr (3, [.ref r0, .ref r1, .ref r2, .ref r3, .int (fa + (la * fi))])), (r0, .inr (6, [.ref a0])), (a0, .inl (cI, 10, .inl (upd f0 w (f0 w + (-la) * fi)))), (r1, .inr (6, [.ref a1])), (a1, .inl (cI, 10, .inl f1)), (r2, .inr (6, [.ref a2])), (a2, .inl (cI, 10, .inl f2)), (r3, .inr (6, [.ref a3])), (a3, .inl (cI, 10, .inl (upd f3 w (f3 w + la * fi))))]) hC (fun _ h => List.mem_cons_of_mem _ (List.mem_append_left _ (List.mem_append_right _ h))) tyX3_ok nmX3 hH 0 rfl rfl 4 (by decide) (by decide +kernel) rfl rfl rfl rfl (Nat.le_of_ble_eq_true rfl) rfl dX3_close_35 (fun H locs hH => ?_)
  refine lv_aload_n zx zy dX3_close_38 rfl (lv_at hl 0 rfl) ?_
  refine fx_get (C := RX3) (T := TX3) (N := 5) hC (fun _ h => List.mem_cons_of_mem _ (List.mem_append_left _ (List.mem_append_right _ h))) hH 0 rfl rfl 2 (by decide) (by decide +kernel) rfl dX3_close_39 ?_
  refine lv_iload_n zx zy dX3_close_42 rfl (lv_at hl 1 rfl) ?_
  refine lv_iload_n zx zy dX3_close_43 rfl (lv_at hl 2 rfl) ?_
  refine fx_cVv (n := 2) (As := [.int (nI w), .int us]) (b := r2) (rest := []) (fun (u : (Nat → Int32)) => [(h, .inr (3, [.ref r0, .ref r1, .ref r2, .ref r3, .int (fa + (la * fi))])), (r0, .inr (6, [.ref a0])), (a0, .inl (cI, 10, .inl (upd f0 w (f0 w + (-la) * fi)))), (r1, .inr (6, [.ref a1])), (a1, .inl (cI, 10, .inl f1)), (r2, .inr (6, [.ref a2])), (a2, .inl (cI, 10, .inl u)), (r3, .inr (6, [.ref a3])), (a3, .inl (cI, 10, .inl (upd f3 w (f3 w + la * fi))))]) hC hA hH (k_X6_add l D cI cZ r2 a2 10 f2 (nI w) us (by first | assumption | omega)) [5, 6] [0, 1, 2, 3, 4, 7, 8] [0, 1, 2, 3, 4, 7, 8, 5, 6] [(h, .inr (3, [.ref r0, .ref r1, .ref r2, .ref r3, .int (fa + (la * fi))])), (r0, .inr (6, [.ref a0])), (a0, .inl (cI, 10, .inl (upd f0 w (f0 w + (-la) * fi)))), (r1, .inr (6, [.ref a1])), (a1, .inl (cI, 10, .inl f1)), (r3, .inr (6, [.ref a3])), (a3, .inl (cI, 10, .inl (upd f3 w (f3 w + la * fi))))] rfl rfl (by decide) (by decide) (fun _ => rfl) rfl gX3_close_X6_add (by decide +kernel) ⟨Nat.le_of_ble_eq_true rfl, Nat.le_of_ble_eq_true rfl⟩ 0 rfl rfl rfl rfl rfl hl.1 (Nat.le_of_ble_eq_true rfl) ⟨Nat.le_of_ble_eq_true rfl, Nat.le_of_ble_eq_true rfl⟩ dX3_close_44 (fun u H locs hw44 hH => ?_)
  obtain ⟨u6, rfl⟩ : ∃ z, z = u := ⟨_, rfl⟩
  obtain rfl : u6 = rPut 10 f2 (nI w) (rAt 10 f2 (nI w) + us) := hw44
  have hH := (hH : fx_H zA zs.heap H locs D [(h, .inr (3, [.ref r0, .ref r1, .ref r2, .ref r3, .int (fa + (la * fi))])), (r0, .inr (6, [.ref a0])), (a0, .inl (cI, 10, .inl (upd f0 w (f0 w + (-la) * fi)))), (r1, .inr (6, [.ref a1])), (a1, .inl (cI, 10, .inl f1)), (r2, .inr (6, [.ref a2])), (a2, .inl (cI, 10, .inl (rPut 10 f2 (nI w) (rAt 10 f2 (nI w) + us)))), (r3, .inr (6, [.ref a3])), (a3, .inl (cI, 10, .inl (upd f3 w (f3 w + la * fi))))])
  rw [show (rPut 10 f2 (nI w) (rAt 10 f2 (nI w) + us) : Nat → Int32) = upd f2 w (f2 w + us) from rAdd_nI hw (by omega)] at hH
  refine lv_aload_n zx zy dX3_close_47 rfl (lv_at hl 0 rfl) ?_
  refine fx_get (C := RX3) (T := TX3) (N := 5) hC (fun _ h => List.mem_cons_of_mem _ (List.mem_append_left _ (List.mem_append_right _ h))) hH 0 rfl rfl 1 (by decide) (by decide +kernel) rfl dX3_close_48 ?_
  refine lv_iload_n zx zy dX3_close_51 rfl (lv_at hl 1 rfl) ?_
  refine lv_iload_n zx zy dX3_close_52 rfl (lv_at hl 3 rfl) ?_
  refine fx_cVv (n := 2) (As := [.int (nI w), .int la]) (b := r1) (rest := []) (fun (u : (Nat → Int32)) => [(h, .inr (3, [.ref r0, .ref r1, .ref r2, .ref r3, .int (fa + (la * fi))])), (r0, .inr (6, [.ref a0])), (a0, .inl (cI, 10, .inl (upd f0 w (f0 w + (-la) * fi)))), (r1, .inr (6, [.ref a1])), (a1, .inl (cI, 10, .inl u)), (r2, .inr (6, [.ref a2])), (a2, .inl (cI, 10, .inl (upd f2 w (f2 w + us)))), (r3, .inr (6, [.ref a3])), (a3, .inl (cI, 10, .inl (upd f3 w (f3 w + la * fi))))]) hC hA hH (k_X6_put l D cI cZ r1 a1 10 f1 (nI w) la (by first | assumption | omega)) [3, 4] [0, 1, 2, 5, 6, 7, 8] [0, 1, 2, 7, 8, 3, 4, 5, 6] [(h, .inr (3, [.ref r0, .ref r1, .ref r2, .ref r3, .int (fa + (la * fi))])), (r0, .inr (6, [.ref a0])), (a0, .inl (cI, 10, .inl (upd f0 w (f0 w + (-la) * fi)))), (r2, .inr (6, [.ref a2])), (a2, .inl (cI, 10, .inl (upd f2 w (f2 w + us)))), (r3, .inr (6, [.ref a3])), (a3, .inl (cI, 10, .inl (upd f3 w (f3 w + la * fi))))] rfl rfl (by decide) (by decide) (fun _ => rfl) rfl gX3_close_X6_put (by decide +kernel) ⟨Nat.le_of_ble_eq_true rfl, Nat.le_of_ble_eq_true rfl⟩ 0 rfl rfl rfl rfl rfl hl.1 (Nat.le_of_ble_eq_true rfl) ⟨Nat.le_of_ble_eq_true rfl, Nat.le_of_ble_eq_true rfl⟩ dX3_close_53 (fun u H locs hw53 hH => ?_)
  obtain ⟨u8, rfl⟩ : ∃ z, z = u := ⟨_, rfl⟩
  obtain rfl : u8 = rPut 10 f1 (nI w) la := hw53
  have hH := (hH : fx_H zA zs.heap H locs D [(h, .inr (3, [.ref r0, .ref r1, .ref r2, .ref r3, .int (fa + (la * fi))])), (r0, .inr (6, [.ref a0])), (a0, .inl (cI, 10, .inl (upd f0 w (f0 w + (-la) * fi)))), (r1, .inr (6, [.ref a1])), (a1, .inl (cI, 10, .inl (rPut 10 f1 (nI w) la))), (r2, .inr (6, [.ref a2])), (a2, .inl (cI, 10, .inl (upd f2 w (f2 w + us)))), (r3, .inr (6, [.ref a3])), (a3, .inl (cI, 10, .inl (upd f3 w (f3 w + la * fi))))])
  rw [show (rPut 10 f1 (nI w) la : Nat → Int32) = upd f1 w la from rPut_nI hw (by omega)] at hH
  exact fx_vret hQ hC hr hlk hH dX3_close_56 (Nat.le_of_ble_eq_true rfl) (Nat.le_of_ble_eq_true rfl) ((upd f0 w (f0 w + (-la) * fi), upd f1 w la, upd f2 w (f2 w + us), upd f3 w (f3 w + la * fi), fa + (la * fi))) rfl (⟨rfl, rfl, rfl, rfl, rfl⟩)
set_option maxHeartbeats 4000000 in
set_option maxRecDepth 100000 in
theorem k_X3_debtOf (l : Launch) (D : va_G) (cI cZ : ClassId) (h : Nat) (r0 : Nat) (r1 : Nat) (r2 : Nat) (r3 : Nat) (fa : Int32) (a1 : Nat) (f1 : Nat → Int32) (w : Nat) (hw : w < 10) : fx_CI l D cI cZ yX3_debtOf wsX3_debtOf ({ frames := 1, cells := 0, slots := 0, locals := 21 }) [.ref h, .int (nI w)] [(h, .inr (3, [.ref r0, .ref r1, .ref r2, .ref r3, .int fa])), (r1, .inr (6, [.ref a1])), (a1, .inl (cI, 10, .inl f1))] (fun (u : Unit) => [(h, .inr (3, [.ref r0, .ref r1, .ref r2, .ref r3, .int fa])), (r1, .inr (6, [.ref a1])), (a1, .inl (cI, 10, .inl f1))]) (fun (r : Int32) (u : Unit) => r = f1 w) := by
  refine fx_CI.of (ws' := (wsX3_debtOf).tail) cX3_debtOf 2 (by decide) rfl (Nat.le_of_ble_eq_true rfl) ?_
  intro zp ze zs zm za zb zt zc zA ls zQ hQ hC hr hlk hA hH hl
  have zx := hC.1.1
  have zy := hC.1.2.1
  have hl : lv_has ls 2 [(0, .ref h), (1, .int (nI w))] := hl
  refine lv_aload_n zx zy dX3_debtOf_0 rfl (lv_at hl 0 rfl) ?_
  refine fx_get (C := RX3) (T := TX3) (N := 5) hC (fun _ h => List.mem_cons_of_mem _ (List.mem_append_left _ (List.mem_append_right _ h))) hH 0 rfl rfl 1 (by decide) (by decide +kernel) rfl dX3_debtOf_1 ?_
  refine lv_iload_n zx zy dX3_debtOf_4 rfl (lv_at hl 1 rfl) ?_
  refine fx_cVi (n := 1) (As := [.int (nI w)]) (b := r1) (rest := []) (fun (u : Unit) => [(h, .inr (3, [.ref r0, .ref r1, .ref r2, .ref r3, .int fa])), (r1, .inr (6, [.ref a1])), (a1, .inl (cI, 10, .inl f1))]) hC hA hH (k_X6_at l D cI cZ r1 a1 10 f1 (nI w) (by first | assumption | omega)) [1, 2] [0] [0, 1, 2] [(h, .inr (3, [.ref r0, .ref r1, .ref r2, .ref r3, .int fa]))] rfl rfl (by decide) (by decide) (fun _ => rfl) rfl gX3_debtOf_X6_at (by decide +kernel) ⟨Nat.le_of_ble_eq_true rfl, Nat.le_of_ble_eq_true rfl⟩ 0 rfl rfl rfl rfl rfl hl.1 (Nat.le_of_ble_eq_true rfl) ⟨Nat.le_of_ble_eq_true rfl, Nat.le_of_ble_eq_true rfl⟩ dX3_debtOf_5 (fun r1 u H locs hw5 hH => ?_)
  obtain rfl : r1 = rAt 10 f1 (nI w) := hw5
  have hH := (hH : fx_H zA zs.heap H locs D [(h, .inr (3, [.ref r0, .ref r1, .ref r2, .ref r3, .int fa])), (r1, .inr (6, [.ref a1])), (a1, .inl (cI, 10, .inl f1))])
  refine lv_topi (fun v2 ev2 => ?_)
  obtain rfl : v2 = f1 w := ev2.trans (rAt_nI hw (by omega))
  exact fx_iret (v := f1 w) hQ hC hr hlk hH dX3_debtOf_8 rfl (Nat.le_of_ble_eq_true rfl) (Nat.le_of_ble_eq_true rfl) (()) rfl (rfl)
set_option maxHeartbeats 4000000 in
set_option maxRecDepth 100000 in
theorem k_X3_allFines (l : Launch) (D : va_G) (cI cZ : ClassId) (h : Nat) (r0 : Nat) (r1 : Nat) (r2 : Nat) (r3 : Nat) (fa : Int32) : fx_CI l D cI cZ yX3_allFines wsX3_allFines ({ frames := 0, cells := 0, slots := 0, locals := 0 }) [.ref h] [(h, .inr (3, [.ref r0, .ref r1, .ref r2, .ref r3, .int fa]))] (fun (u : Unit) => [(h, .inr (3, [.ref r0, .ref r1, .ref r2, .ref r3, .int fa]))]) (fun (r : Int32) (u : Unit) => r = fa) := by
  refine fx_CI.of (ws' := (wsX3_allFines).tail) cX3_allFines 1 (by decide) rfl (Nat.le_of_ble_eq_true rfl) ?_
  intro zp ze zs zm za zb zt zc zA ls zQ hQ hC hr hlk hA hH hl
  have zx := hC.1.1
  have zy := hC.1.2.1
  have hl : lv_has ls 1 [(0, .ref h)] := hl
  refine lv_aload_n zx zy dX3_allFines_0 rfl (lv_at hl 0 rfl) ?_
  refine fx_get (C := RX3) (T := TX3) (N := 5) hC (fun _ h => List.mem_cons_of_mem _ (List.mem_append_right _ h)) hH 0 rfl rfl 4 (by decide) (by decide +kernel) rfl dX3_allFines_1 ?_
  exact fx_iret (v := fa) hQ hC hr hlk hH dX3_allFines_4 rfl (Nat.le_of_ble_eq_true rfl) (Nat.le_of_ble_eq_true rfl) (()) rfl (rfl)
set_option maxHeartbeats 4000000 in
set_option maxRecDepth 100000 in
theorem k_X3_fact (l : Launch) (D : va_G) (cI cZ : ClassId) (h : Nat) (r0 : Nat) (r1 : Nat) (r2 : Nat) (r3 : Nat) (fa : Int32) (a0 : Nat) (a1 : Nat) (a2 : Nat) (a3 : Nat) (f0 : Nat → Int32) (f1 : Nat → Int32) (f2 : Nat → Int32) (f3 : Nat → Int32) (w : Nat) (t : Int32) (hw : w < 10) : fx_CI l D cI cZ yX3_fact wsX3_fact ({ frames := 1, cells := 0, slots := 0, locals := 21 }) [.ref h, .int (nI w), .int t] [(h, .inr (3, [.ref r0, .ref r1, .ref r2, .ref r3, .int fa])), (r0, .inr (6, [.ref a0])), (a0, .inl (cI, 10, .inl f0)), (r1, .inr (6, [.ref a1])), (a1, .inl (cI, 10, .inl f1)), (r2, .inr (6, [.ref a2])), (a2, .inl (cI, 10, .inl f2)), (r3, .inr (6, [.ref a3])), (a3, .inl (cI, 10, .inl f3))] (fun (u : Unit) => [(h, .inr (3, [.ref r0, .ref r1, .ref r2, .ref r3, .int fa])), (r0, .inr (6, [.ref a0])), (a0, .inl (cI, 10, .inl f0)), (r1, .inr (6, [.ref a1])), (a1, .inl (cI, 10, .inl f1)), (r2, .inr (6, [.ref a2])), (a2, .inl (cI, 10, .inl f2)), (r3, .inr (6, [.ref a3])), (a3, .inl (cI, 10, .inl f3))]) (fun (r : Int32) (u : Unit) => r = lgF (f0 w) (f1 w) (f2 w) (f3 w) t) := by
  refine fx_CI.of (ws' := (wsX3_fact).tail) cX3_fact 3 (by decide) rfl (Nat.le_of_ble_eq_true rfl) ?_
  intro zp ze zs zm za zb zt zc zA ls zQ hQ hC hr hlk hA hH hl
  have zx := hC.1.1
  have zy := hC.1.2.1
  have hl : lv_has ls 3 [(0, .ref h), (1, .int (nI w)), (2, .int t)] := hl
  refine lv_iload_n zx zy dX3_fact_0 rfl (lv_at hl 2 rfl) ?_
  by_cases t1_0 : t = 0
  · refine lv_tableIn (off := 35) (tgt := 36) zx zy dX3_fact_1 (by rw [t1_0]; decide) (by rw [t1_0]; decide) (by rw [t1_0]; rfl) (by decide) ?_
    refine lv_aload_n zx zy dX3_fact_36 rfl (lv_at hl 0 rfl) ?_
    refine fx_get (C := RX3) (T := TX3) (N := 5) hC (fun _ h => List.mem_cons_of_mem _ (List.mem_append_left _ (List.mem_append_right _ h))) hH 0 rfl rfl 0 (by decide) (by decide +kernel) rfl dX3_fact_37 ?_
    refine lv_iload_n zx zy dX3_fact_40 rfl (lv_at hl 1 rfl) ?_
    refine fx_cVi (n := 1) (As := [.int (nI w)]) (b := r0) (rest := []) (fun (u : Unit) => [(h, .inr (3, [.ref r0, .ref r1, .ref r2, .ref r3, .int fa])), (r0, .inr (6, [.ref a0])), (a0, .inl (cI, 10, .inl f0)), (r1, .inr (6, [.ref a1])), (a1, .inl (cI, 10, .inl f1)), (r2, .inr (6, [.ref a2])), (a2, .inl (cI, 10, .inl f2)), (r3, .inr (6, [.ref a3])), (a3, .inl (cI, 10, .inl f3))]) hC hA hH (k_X6_at l D cI cZ r0 a0 10 f0 (nI w) (by first | assumption | omega)) [1, 2] [0, 3, 4, 5, 6, 7, 8] [0, 7, 8, 1, 2, 3, 4, 5, 6] [(h, .inr (3, [.ref r0, .ref r1, .ref r2, .ref r3, .int fa])), (r1, .inr (6, [.ref a1])), (a1, .inl (cI, 10, .inl f1)), (r2, .inr (6, [.ref a2])), (a2, .inl (cI, 10, .inl f2)), (r3, .inr (6, [.ref a3])), (a3, .inl (cI, 10, .inl f3))] rfl rfl (by decide) (by decide) (fun _ => rfl) rfl gX3_fact_X6_at (by decide +kernel) ⟨Nat.le_of_ble_eq_true rfl, Nat.le_of_ble_eq_true rfl⟩ 0 rfl rfl rfl rfl rfl hl.1 (Nat.le_of_ble_eq_true rfl) ⟨Nat.le_of_ble_eq_true rfl, Nat.le_of_ble_eq_true rfl⟩ dX3_fact_41 (fun r1 u H locs hw41 hH => ?_)
    obtain rfl : r1 = rAt 10 f0 (nI w) := hw41
    have hH := (hH : fx_H zA zs.heap H locs D [(h, .inr (3, [.ref r0, .ref r1, .ref r2, .ref r3, .int fa])), (r0, .inr (6, [.ref a0])), (a0, .inl (cI, 10, .inl f0)), (r1, .inr (6, [.ref a1])), (a1, .inl (cI, 10, .inl f1)), (r2, .inr (6, [.ref a2])), (a2, .inl (cI, 10, .inl f2)), (r3, .inr (6, [.ref a3])), (a3, .inl (cI, 10, .inl f3))])
    refine lv_topi (fun v2 ev2 => ?_)
    obtain rfl : v2 = f0 w := ev2.trans (rAt_nI hw (by omega))
    exact fx_iret (v := f0 w) hQ hC hr hlk hH dX3_fact_44 rfl (Nat.le_of_ble_eq_true rfl) (Nat.le_of_ble_eq_true rfl) (()) rfl (by rw [t1_0]; rfl)
  by_cases t1_1 : t = 1
  · refine lv_tableIn (off := 44) (tgt := 45) zx zy dX3_fact_1 (by rw [t1_1]; decide) (by rw [t1_1]; decide) (by rw [t1_1]; rfl) (by decide) ?_
    refine lv_aload_n zx zy dX3_fact_45 rfl (lv_at hl 0 rfl) ?_
    refine fx_get (C := RX3) (T := TX3) (N := 5) hC (fun _ h => List.mem_cons_of_mem _ (List.mem_append_left _ (List.mem_append_right _ h))) hH 0 rfl rfl 1 (by decide) (by decide +kernel) rfl dX3_fact_46 ?_
    refine lv_iload_n zx zy dX3_fact_49 rfl (lv_at hl 1 rfl) ?_
    refine fx_cVi (n := 1) (As := [.int (nI w)]) (b := r1) (rest := []) (fun (u : Unit) => [(h, .inr (3, [.ref r0, .ref r1, .ref r2, .ref r3, .int fa])), (r0, .inr (6, [.ref a0])), (a0, .inl (cI, 10, .inl f0)), (r1, .inr (6, [.ref a1])), (a1, .inl (cI, 10, .inl f1)), (r2, .inr (6, [.ref a2])), (a2, .inl (cI, 10, .inl f2)), (r3, .inr (6, [.ref a3])), (a3, .inl (cI, 10, .inl f3))]) hC hA hH (k_X6_at l D cI cZ r1 a1 10 f1 (nI w) (by first | assumption | omega)) [3, 4] [0, 1, 2, 5, 6, 7, 8] [0, 1, 2, 7, 8, 3, 4, 5, 6] [(h, .inr (3, [.ref r0, .ref r1, .ref r2, .ref r3, .int fa])), (r0, .inr (6, [.ref a0])), (a0, .inl (cI, 10, .inl f0)), (r2, .inr (6, [.ref a2])), (a2, .inl (cI, 10, .inl f2)), (r3, .inr (6, [.ref a3])), (a3, .inl (cI, 10, .inl f3))] rfl rfl (by decide) (by decide) (fun _ => rfl) rfl gX3_fact_X6_at (by decide +kernel) ⟨Nat.le_of_ble_eq_true rfl, Nat.le_of_ble_eq_true rfl⟩ 0 rfl rfl rfl rfl rfl hl.1 (Nat.le_of_ble_eq_true rfl) ⟨Nat.le_of_ble_eq_true rfl, Nat.le_of_ble_eq_true rfl⟩ dX3_fact_50 (fun r3 u H locs hw50 hH => ?_)
    obtain rfl : r3 = rAt 10 f1 (nI w) := hw50
    have hH := (hH : fx_H zA zs.heap H locs D [(h, .inr (3, [.ref r0, .ref r1, .ref r2, .ref r3, .int fa])), (r0, .inr (6, [.ref a0])), (a0, .inl (cI, 10, .inl f0)), (r1, .inr (6, [.ref a1])), (a1, .inl (cI, 10, .inl f1)), (r2, .inr (6, [.ref a2])), (a2, .inl (cI, 10, .inl f2)), (r3, .inr (6, [.ref a3])), (a3, .inl (cI, 10, .inl f3))])
    refine lv_topi (fun v4 ev4 => ?_)
    obtain rfl : v4 = f1 w := ev4.trans (rAt_nI hw (by omega))
    exact fx_iret (v := f1 w) hQ hC hr hlk hH dX3_fact_53 rfl (Nat.le_of_ble_eq_true rfl) (Nat.le_of_ble_eq_true rfl) (()) rfl (by rw [t1_1]; rfl)
  by_cases t1_2 : t = 2
  · refine lv_tableIn (off := 71) (tgt := 72) zx zy dX3_fact_1 (by rw [t1_2]; decide) (by rw [t1_2]; decide) (by rw [t1_2]; rfl) (by decide) ?_
    refine lv_ldc (own := RX3) (v := (-2147483648)) zx zy hC.1.2.2.2.1 (hC.1.2.2.2.2 _ (by decide +kernel)) dX3_fact_72 ?_
    exact fx_iret (v := (-2147483648)) hQ hC hr hlk hH dX3_fact_74 rfl (Nat.le_of_ble_eq_true rfl) (Nat.le_of_ble_eq_true rfl) (()) rfl (by first | (rw [t1_2]; rfl) | exact (lgF_else t1_0 t1_1 t1_3 t1_4).symm)
  by_cases t1_3 : t = 3
  · refine lv_tableIn (off := 53) (tgt := 54) zx zy dX3_fact_1 (by rw [t1_3]; decide) (by rw [t1_3]; decide) (by rw [t1_3]; rfl) (by decide) ?_
    refine lv_aload_n zx zy dX3_fact_54 rfl (lv_at hl 0 rfl) ?_
    refine fx_get (C := RX3) (T := TX3) (N := 5) hC (fun _ h => List.mem_cons_of_mem _ (List.mem_append_left _ (List.mem_append_right _ h))) hH 0 rfl rfl 2 (by decide) (by decide +kernel) rfl dX3_fact_55 ?_
    refine lv_iload_n zx zy dX3_fact_58 rfl (lv_at hl 1 rfl) ?_
    refine fx_cVi (n := 1) (As := [.int (nI w)]) (b := r2) (rest := []) (fun (u : Unit) => [(h, .inr (3, [.ref r0, .ref r1, .ref r2, .ref r3, .int fa])), (r0, .inr (6, [.ref a0])), (a0, .inl (cI, 10, .inl f0)), (r1, .inr (6, [.ref a1])), (a1, .inl (cI, 10, .inl f1)), (r2, .inr (6, [.ref a2])), (a2, .inl (cI, 10, .inl f2)), (r3, .inr (6, [.ref a3])), (a3, .inl (cI, 10, .inl f3))]) hC hA hH (k_X6_at l D cI cZ r2 a2 10 f2 (nI w) (by first | assumption | omega)) [5, 6] [0, 1, 2, 3, 4, 7, 8] [0, 1, 2, 3, 4, 7, 8, 5, 6] [(h, .inr (3, [.ref r0, .ref r1, .ref r2, .ref r3, .int fa])), (r0, .inr (6, [.ref a0])), (a0, .inl (cI, 10, .inl f0)), (r1, .inr (6, [.ref a1])), (a1, .inl (cI, 10, .inl f1)), (r3, .inr (6, [.ref a3])), (a3, .inl (cI, 10, .inl f3))] rfl rfl (by decide) (by decide) (fun _ => rfl) rfl gX3_fact_X6_at (by decide +kernel) ⟨Nat.le_of_ble_eq_true rfl, Nat.le_of_ble_eq_true rfl⟩ 0 rfl rfl rfl rfl rfl hl.1 (Nat.le_of_ble_eq_true rfl) ⟨Nat.le_of_ble_eq_true rfl, Nat.le_of_ble_eq_true rfl⟩ dX3_fact_59 (fun r5 u H locs hw59 hH => ?_)
    obtain rfl : r5 = rAt 10 f2 (nI w) := hw59
    have hH := (hH : fx_H zA zs.heap H locs D [(h, .inr (3, [.ref r0, .ref r1, .ref r2, .ref r3, .int fa])), (r0, .inr (6, [.ref a0])), (a0, .inl (cI, 10, .inl f0)), (r1, .inr (6, [.ref a1])), (a1, .inl (cI, 10, .inl f1)), (r2, .inr (6, [.ref a2])), (a2, .inl (cI, 10, .inl f2)), (r3, .inr (6, [.ref a3])), (a3, .inl (cI, 10, .inl f3))])
    refine lv_topi (fun v6 ev6 => ?_)
    obtain rfl : v6 = f2 w := ev6.trans (rAt_nI hw (by omega))
    exact fx_iret (v := f2 w) hQ hC hr hlk hH dX3_fact_62 rfl (Nat.le_of_ble_eq_true rfl) (Nat.le_of_ble_eq_true rfl) (()) rfl (by rw [t1_3]; rfl)
  by_cases t1_4 : t = 4
  · refine lv_tableIn (off := 62) (tgt := 63) zx zy dX3_fact_1 (by rw [t1_4]; decide) (by rw [t1_4]; decide) (by rw [t1_4]; rfl) (by decide) ?_
    refine lv_aload_n zx zy dX3_fact_63 rfl (lv_at hl 0 rfl) ?_
    refine fx_get (C := RX3) (T := TX3) (N := 5) hC (fun _ h => List.mem_cons_of_mem _ (List.mem_append_left _ (List.mem_append_right _ h))) hH 0 rfl rfl 3 (by decide) (by decide +kernel) rfl dX3_fact_64 ?_
    refine lv_iload_n zx zy dX3_fact_67 rfl (lv_at hl 1 rfl) ?_
    refine fx_cVi (n := 1) (As := [.int (nI w)]) (b := r3) (rest := []) (fun (u : Unit) => [(h, .inr (3, [.ref r0, .ref r1, .ref r2, .ref r3, .int fa])), (r0, .inr (6, [.ref a0])), (a0, .inl (cI, 10, .inl f0)), (r1, .inr (6, [.ref a1])), (a1, .inl (cI, 10, .inl f1)), (r2, .inr (6, [.ref a2])), (a2, .inl (cI, 10, .inl f2)), (r3, .inr (6, [.ref a3])), (a3, .inl (cI, 10, .inl f3))]) hC hA hH (k_X6_at l D cI cZ r3 a3 10 f3 (nI w) (by first | assumption | omega)) [7, 8] [0, 1, 2, 3, 4, 5, 6] [0, 1, 2, 3, 4, 5, 6, 7, 8] [(h, .inr (3, [.ref r0, .ref r1, .ref r2, .ref r3, .int fa])), (r0, .inr (6, [.ref a0])), (a0, .inl (cI, 10, .inl f0)), (r1, .inr (6, [.ref a1])), (a1, .inl (cI, 10, .inl f1)), (r2, .inr (6, [.ref a2])), (a2, .inl (cI, 10, .inl f2))] rfl rfl (by decide) (by decide) (fun _ => rfl) rfl gX3_fact_X6_at (by decide +kernel) ⟨Nat.le_of_ble_eq_true rfl, Nat.le_of_ble_eq_true rfl⟩ 0 rfl rfl rfl rfl rfl hl.1 (Nat.le_of_ble_eq_true rfl) ⟨Nat.le_of_ble_eq_true rfl, Nat.le_of_ble_eq_true rfl⟩ dX3_fact_68 (fun r7 u H locs hw68 hH => ?_)
    obtain rfl : r7 = rAt 10 f3 (nI w) := hw68
    have hH := (hH : fx_H zA zs.heap H locs D [(h, .inr (3, [.ref r0, .ref r1, .ref r2, .ref r3, .int fa])), (r0, .inr (6, [.ref a0])), (a0, .inl (cI, 10, .inl f0)), (r1, .inr (6, [.ref a1])), (a1, .inl (cI, 10, .inl f1)), (r2, .inr (6, [.ref a2])), (a2, .inl (cI, 10, .inl f2)), (r3, .inr (6, [.ref a3])), (a3, .inl (cI, 10, .inl f3))])
    refine lv_topi (fun v8 ev8 => ?_)
    obtain rfl : v8 = f3 w := ev8.trans (rAt_nI hw (by omega))
    exact fx_iret (v := f3 w) hQ hC hr hlk hH dX3_fact_71 rfl (Nat.le_of_ble_eq_true rfl) (Nat.le_of_ble_eq_true rfl) (()) rfl (by rw [t1_4]; rfl)
  refine lv_tableOut (tgt := 72) zx zy dX3_fact_1 (by have n0 := lv_neT (a := 0) t1_0 rfl; have n1 := lv_neT (a := 1) t1_1 rfl; have n2 := lv_neT (a := 2) t1_2 rfl; have n3 := lv_neT (a := 3) t1_3 rfl; have n4 := lv_neT (a := 4) t1_4 rfl; omega) (by decide) ?_
  refine lv_ldc (own := RX3) (v := (-2147483648)) zx zy hC.1.2.2.2.1 (hC.1.2.2.2.2 _ (by decide +kernel)) dX3_fact_72 ?_
  exact fx_iret (v := (-2147483648)) hQ hC hr hlk hH dX3_fact_74 rfl (Nat.le_of_ble_eq_true rfl) (Nat.le_of_ble_eq_true rfl) (()) rfl (by first | (rw [t1_2]; rfl) | exact (lgF_else t1_0 t1_1 t1_3 t1_4).symm)
