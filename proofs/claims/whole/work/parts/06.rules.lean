theorem w_in {x : Int32} {N : Nat} (hN : N < 2 ^ 31) (h1 : ¬ x < 0) (h2 : ¬ nI N < x) : ∃ j, j < N + 1 ∧ x = nI j := by
  obtain ⟨j, hj, rfl⟩ := nI_of h1
  exact ⟨j, Nat.lt_succ_of_le (Nat.le_of_not_lt (fun h => h2 (nI_lt h hj))), rfl⟩
theorem w_out {x : Int32} {N : Nat} (hN : N < 2 ^ 31) (h : x < 0 ∨ nI N < x) : ¬ ∃ j, j < N + 1 ∧ x = nI j := by
  rintro ⟨j, hj, rfl⟩
  rcases h with h | h
  · exact nI_pos (by omega) h
  · exact nI_nlt (by omega : j ≤ N) hN h
theorem w_inK {x : Int32} {k : Nat} (hk : k < 2 ^ 31) (h1 : ¬ x < 0) (h2 : ¬ nI k - 1 < x) : ∃ j, j < k ∧ x = nI j := by
  obtain ⟨j, hj, rfl⟩ := nI_of h1
  cases k with
  | zero => exact absurd (by
      have e : nI 0 - 1 = (-1 : Int32) := by decide
      rw [e]
      exact Int32.lt_iff_toInt_lt.mpr (by rw [nI_toInt hj]; show (-1 : Int) < _; omega)) h2
  | succ k =>
    rw [nI_pred] at h2
    exact ⟨j, Nat.lt_succ_of_le (Nat.le_of_not_lt (fun h => h2 (nI_lt h hj))), rfl⟩
theorem w_outK {x : Int32} {k : Nat} (hk : k < 2 ^ 31) (h : x < 0 ∨ nI k - 1 < x) : ¬ ∃ j, j < k ∧ x = nI j := by
  rintro ⟨j, hj, rfl⟩
  rcases h with h | h
  · exact nI_pos (by omega) h
  · cases k with
    | zero => omega
    | succ k =>
      rw [nI_pred] at h
      exact nI_nlt (by omega : j ≤ k) (by omega) h
/-- the rule in force among the first k: the last of the greatest years that aren't above y -/
def inF (f : Nat → Int32) (y : Int32) : Nat → Int32
  | 0 => -1
  | k + 1 => if y < f k then inF f y k else if inF f y k = -1 then nI k else if f k < rAt 30 f (inF f y k) then inF f y k else nI k
def capGo (fall : Int32) : Nat → Int32 → Int32
  | 0, c => c
  | d + 1, c => capGo fall d (c - c * fall / 100)
def capV (f0 f1 f2 : Nat → Int32) (k y : Nat) : Int32 := capGo (rAt 30 f2 (inF f0 (nI y) k)) (y - (rAt 30 f0 (inF f0 (nI y) k)).toNatClampNeg) (rAt 30 f1 (inF f0 (nI y) k))
theorem inF_ix (f : Nat → Int32) (y : Int32) : ∀ k, inF f y k = -1 ∨ ∃ j, j < k ∧ inF f y k = nI j
  | 0 => Or.inl rfl
  | k + 1 => by
    have ih := inF_ix f y k
    have up : (inF f y k = -1 ∨ ∃ j, j < k + 1 ∧ inF f y k = nI j) := ih.imp id (fun ⟨j, h, e⟩ => ⟨j, by omega, e⟩)
    simp only [inF]
    split
    · exact up
    · split
      · exact Or.inr ⟨k, by omega, rfl⟩
      · split
        · exact up
        · exact Or.inr ⟨k, by omega, rfl⟩
theorem inF_at {f g : Nat → Int32} {y : Int32} {k : Nat} (hk : k ≤ 30) {P : Int32 → Prop} (h0 : P 0) (h : ∀ j, j < k → P (g j)) : P (rAt 30 g (inF f y k)) := by
  rcases inF_ix f y k with e | ⟨j, hj, e⟩
  · rw [e, rAt_m1]; exact h0
  · rw [e, rAt_nI (by omega) (by omega)]; exact h j hj
theorem capGo_s {fall c : Int32} {y v : Nat} (h : v < y) : capGo fall (y - v) c = capGo fall (y - (v + 1)) (c - c * fall / 100) := by
  obtain ⟨d, e⟩ : ∃ d, y - v = d + 1 := ⟨y - v - 1, by omega⟩
  rw [e, show y - (v + 1) = d by omega]
  rfl
def tlOk (k : Nat) (w s : Int32) : Prop := k < 30 ∧ ¬ 400 < w / 1000 ∧ ¬ 100 < w - w / 1000 * 1000 ∧ s / 100000 ≤ 100
theorem fx_ge30 {k : Nat} (hk : k < 2 ^ 31) {N : Nat} (h : nI N ≤ nI k) (hN : N < 2 ^ 31) : N ≤ k := fx_le_of h hk hN
set_option maxHeartbeats 4000000 in
set_option maxRecDepth 100000 in
theorem k_X8_isWithin (l : Launch) (D : va_G) (cI cZ : ClassId) (x : Int32) (lo : Int32) (hi : Int32) : fx_CI l D cI cZ yX8_isWithin wsX8_isWithin ({ frames := 0, cells := 0, slots := 0, locals := 0 }) [.int x, .int lo, .int hi] [] (fun (u : Unit) => []) (fun (r : Int32) (u : Unit) => ((¬ x < lo ∧ ¬ hi < x) ∧ r = 1) ∨ ((x < lo ∨ hi < x) ∧ r = 0)) := by
  refine fx_CI.of (ws' := (wsX8_isWithin).tail) cX8_isWithin 3 (by decide) rfl (Nat.le_of_ble_eq_true rfl) ?_
  intro zp ze zs zm za zb zt zc zA ls zQ hQ hC hr hlk hA hH hl
  have zx := hC.1.1
  have zy := hC.1.2.1
  have hl : lv_has ls 3 [(0, .int x), (1, .int lo), (2, .int hi)] := hl
  refine lv_iload_n zx zy dX8_isWithin_0 rfl (lv_at hl 0 rfl) ?_
  refine lv_iload_n zx zy dX8_isWithin_1 rfl (lv_at hl 1 rfl) ?_
  refine lv_icmp_lt (tgt := 14) zx zy dX8_isWithin_2 (by decide) (fun c2 => ?_) (fun c2 => ?_)
  · skip
    refine lv_iconst (v := 0) zx zy dX8_isWithin_14 (by decide) ?_
    exact fx_iret (v := 0) hQ hC hr hlk hH dX8_isWithin_15 rfl (Nat.le_of_ble_eq_true rfl) (Nat.le_of_ble_eq_true rfl) (()) rfl (by first | exact Or.inl ⟨⟨c2, c7⟩, rfl⟩ | exact Or.inr ⟨Or.inl c2, rfl⟩ | exact Or.inr ⟨Or.inr c7, rfl⟩)
  · skip
    refine lv_iload_n zx zy dX8_isWithin_5 rfl (lv_at hl 0 rfl) ?_
    refine lv_iload_n zx zy dX8_isWithin_6 rfl (lv_at hl 2 rfl) ?_
    refine lv_icmp_gt (tgt := 14) zx zy dX8_isWithin_7 (by decide) (fun c7 => ?_) (fun c7 => ?_)
    · skip
      refine lv_iconst (v := 0) zx zy dX8_isWithin_14 (by decide) ?_
      exact fx_iret (v := 0) hQ hC hr hlk hH dX8_isWithin_15 rfl (Nat.le_of_ble_eq_true rfl) (Nat.le_of_ble_eq_true rfl) (()) rfl (by first | exact Or.inl ⟨⟨c2, c7⟩, rfl⟩ | exact Or.inr ⟨Or.inl c2, rfl⟩ | exact Or.inr ⟨Or.inr c7, rfl⟩)
    · skip
      refine lv_iconst (v := 1) zx zy dX8_isWithin_10 (by decide) ?_
      refine lv_goto (tgt := 15) zx zy dX8_isWithin_11 (by decide) ?_
      exact fx_iret (v := 1) hQ hC hr hlk hH dX8_isWithin_15 rfl (Nat.le_of_ble_eq_true rfl) (Nat.le_of_ble_eq_true rfl) (()) rfl (by first | exact Or.inl ⟨⟨c2, c7⟩, rfl⟩ | exact Or.inr ⟨Or.inl c2, rfl⟩ | exact Or.inr ⟨Or.inr c7, rfl⟩)
set_option maxHeartbeats 4000000 in
set_option maxRecDepth 100000 in
theorem k_X9_in (l : Launch) (D : va_G) (cI cZ : ClassId) (x : Int32) (lo : Int32) (hi : Int32) : fx_CI l D cI cZ yX9_in wsX9_in ({ frames := 0, cells := 0, slots := 0, locals := 0 }) [.int x, .int lo, .int hi] [] (fun (u : Unit) => []) (fun (r : Int32) (u : Unit) => ((¬ x < lo ∧ ¬ hi < x) ∧ r = 1) ∨ ((x < lo ∨ hi < x) ∧ r = 0)) := by
  refine fx_CI.of (ws' := (wsX9_in).tail) cX9_in 3 (by decide) rfl (Nat.le_of_ble_eq_true rfl) ?_
  intro zp ze zs zm za zb zt zc zA ls zQ hQ hC hr hlk hA hH hl
  have zx := hC.1.1
  have zy := hC.1.2.1
  have hl : lv_has ls 3 [(0, .int x), (1, .int lo), (2, .int hi)] := hl
  refine lv_iload_n zx zy dX9_in_0 rfl (lv_at hl 0 rfl) ?_
  refine lv_iload_n zx zy dX9_in_1 rfl (lv_at hl 1 rfl) ?_
  refine lv_icmp_lt (tgt := 14) zx zy dX9_in_2 (by decide) (fun c2 => ?_) (fun c2 => ?_)
  · skip
    refine lv_iconst (v := 0) zx zy dX9_in_14 (by decide) ?_
    exact fx_iret (v := 0) hQ hC hr hlk hH dX9_in_15 rfl (Nat.le_of_ble_eq_true rfl) (Nat.le_of_ble_eq_true rfl) (()) rfl (by first | exact Or.inl ⟨⟨c2, c7⟩, rfl⟩ | exact Or.inr ⟨Or.inl c2, rfl⟩ | exact Or.inr ⟨Or.inr c7, rfl⟩)
  · skip
    refine lv_iload_n zx zy dX9_in_5 rfl (lv_at hl 0 rfl) ?_
    refine lv_iload_n zx zy dX9_in_6 rfl (lv_at hl 2 rfl) ?_
    refine lv_icmp_gt (tgt := 14) zx zy dX9_in_7 (by decide) (fun c7 => ?_) (fun c7 => ?_)
    · skip
      refine lv_iconst (v := 0) zx zy dX9_in_14 (by decide) ?_
      exact fx_iret (v := 0) hQ hC hr hlk hH dX9_in_15 rfl (Nat.le_of_ble_eq_true rfl) (Nat.le_of_ble_eq_true rfl) (()) rfl (by first | exact Or.inl ⟨⟨c2, c7⟩, rfl⟩ | exact Or.inr ⟨Or.inl c2, rfl⟩ | exact Or.inr ⟨Or.inr c7, rfl⟩)
    · skip
      refine lv_iconst (v := 1) zx zy dX9_in_10 (by decide) ?_
      refine lv_goto (tgt := 15) zx zy dX9_in_11 (by decide) ?_
      exact fx_iret (v := 1) hQ hC hr hlk hH dX9_in_15 rfl (Nat.le_of_ble_eq_true rfl) (Nat.le_of_ble_eq_true rfl) (()) rfl (by first | exact Or.inl ⟨⟨c2, c7⟩, rfl⟩ | exact Or.inr ⟨Or.inl c2, rfl⟩ | exact Or.inr ⟨Or.inr c7, rfl⟩)
set_option maxHeartbeats 4000000 in
set_option maxRecDepth 100000 in
theorem k_X8_isYear (l : Launch) (D : va_G) (cI cZ : ClassId) (x : Int32) : fx_CI l D cI cZ yX8_isYear wsX8_isYear ({ frames := 1, cells := 0, slots := 0, locals := 22 }) [.int x] [] (fun (u : Unit) => []) (fun (r : Int32) (u : Unit) => ((∃ j, j < 20 ∧ x = nI j) ∧ r = 1) ∨ ((¬ ∃ j, j < 20 ∧ x = nI j) ∧ r = 0)) := by
  refine fx_CI.of (ws' := (wsX8_isYear).tail) cX8_isYear 1 (by decide) rfl (Nat.le_of_ble_eq_true rfl) ?_
  intro zp ze zs zm za zb zt zc zA ls zQ hQ hC hr hlk hA hH hl
  have zx := hC.1.1
  have zy := hC.1.2.1
  have hl : lv_has ls 1 [(0, .int x)] := hl
  refine lv_iload_n zx zy dX8_isYear_0 rfl (lv_at hl 0 rfl) ?_
  refine lv_iconst (v := 0) zx zy dX8_isYear_1 (by decide) ?_
  refine lv_bipush (v := 19) zx zy dX8_isYear_2 (by decide) ?_
  refine fx_cSi (n := 3) (As := [.int x, .int 0, .int 19]) (rest := []) hC hA hH (k_X8_isWithin l D cI cZ x 0 19) ⟨rfl, rfl⟩ rfl gX8_isYear_X8_isWithin (by decide +kernel) ⟨Nat.le_of_ble_eq_true rfl, Nat.le_of_ble_eq_true rfl⟩ rfl rfl hl.1 (Nat.le_of_ble_eq_true rfl) ⟨(Nat.le_of_ble_eq_true rfl), (Nat.le_of_ble_eq_true rfl)⟩ dX8_isYear_4 (fun r1 H locs hw4 hH => ?_)
  rcases hw4 with ⟨hg4, rfl⟩ | ⟨hg4, rfl⟩
  · skip
    have hH := (hH : fx_H zA zs.heap H locs D [])
    exact fx_iret (v := 1) hQ hC hr hlk hH dX8_isYear_7 rfl (Nat.le_of_ble_eq_true rfl) (Nat.le_of_ble_eq_true rfl) (()) rfl (by first | exact Or.inl ⟨w_in (N := 19) (by omega) hg4.1 hg4.2, rfl⟩ | exact Or.inr ⟨w_out (N := 19) (by omega) hg4, rfl⟩)
  · skip
    have hH := (hH : fx_H zA zs.heap H locs D [])
    exact fx_iret (v := 0) hQ hC hr hlk hH dX8_isYear_7 rfl (Nat.le_of_ble_eq_true rfl) (Nat.le_of_ble_eq_true rfl) (()) rfl (by first | exact Or.inl ⟨w_in (N := 19) (by omega) hg4.1 hg4.2, rfl⟩ | exact Or.inr ⟨w_out (N := 19) (by omega) hg4, rfl⟩)
set_option maxHeartbeats 4000000 in
set_option maxRecDepth 100000 in
theorem k_X8_isWorks (l : Launch) (D : va_G) (cI cZ : ClassId) (h : Nat) (rl : Nat) (mt : Nat) (pm : Nat) (al : Nat) (bd : Nat) (ct : Nat) (lg : Nat) (fp : Nat) (now : Nat) (wk : Nat) (pj : Nat) (ac : Int32) (iy : Int32) (x : Int32) (hwk : wk ≤ 10) : fx_CI l D cI cZ yX8_isWorks wsX8_isWorks ({ frames := 1, cells := 0, slots := 0, locals := 22 }) [.ref h, .int x] [(h, .inr (8, [.ref rl, .ref mt, .ref pm, .ref al, .ref bd, .ref ct, .ref lg, .ref fp, .int (nI now), .int (nI wk), .int (nI pj), .int ac, .int iy]))] (fun (u : Unit) => [(h, .inr (8, [.ref rl, .ref mt, .ref pm, .ref al, .ref bd, .ref ct, .ref lg, .ref fp, .int (nI now), .int (nI wk), .int (nI pj), .int ac, .int iy]))]) (fun (r : Int32) (u : Unit) => ((∃ j, j < wk ∧ x = nI j) ∧ r = 1) ∨ ((¬ ∃ j, j < wk ∧ x = nI j) ∧ r = 0)) := by
  refine fx_CI.of (ws' := (wsX8_isWorks).tail) cX8_isWorks 2 (by decide) rfl (Nat.le_of_ble_eq_true rfl) ?_
  intro zp ze zs zm za zb zt zc zA ls zQ hQ hC hr hlk hA hH hl
  have zx := hC.1.1
  have zy := hC.1.2.1
  have hl : lv_has ls 2 [(0, .ref h), (1, .int x)] := hl
  refine lv_iload_n zx zy dX8_isWorks_0 rfl (lv_at hl 1 rfl) ?_
  refine lv_iconst (v := 0) zx zy dX8_isWorks_1 (by decide) ?_
  refine lv_aload_n zx zy dX8_isWorks_2 rfl (lv_at hl 0 rfl) ?_
  refine fx_get (C := RX8) (T := TX8) (N := 13) hC (fun _ h => List.mem_cons_of_mem _ (List.mem_append_right _ h)) hH 0 rfl rfl 9 (by decide) (by decide +kernel) rfl dX8_isWorks_3 ?_
  refine lv_iconst (v := 1) zx zy dX8_isWorks_6 (by decide) ?_
  refine lv_isub zx zy dX8_isWorks_7 ?_
  refine fx_cSi (n := 3) (As := [.int x, .int 0, .int ((nI wk) - 1)]) (rest := []) hC hA hH (k_X8_isWithin l D cI cZ x 0 ((nI wk) - 1)) ⟨rfl, rfl⟩ rfl gX8_isWorks_X8_isWithin (by decide +kernel) ⟨Nat.le_of_ble_eq_true rfl, Nat.le_of_ble_eq_true rfl⟩ rfl rfl hl.1 (Nat.le_of_ble_eq_true rfl) ⟨(Nat.le_of_ble_eq_true rfl), (Nat.le_of_ble_eq_true rfl)⟩ dX8_isWorks_8 (fun r1 H locs hw8 hH => ?_)
  rcases hw8 with ⟨hg8, rfl⟩ | ⟨hg8, rfl⟩
  · skip
    have hH := (hH : fx_H zA zs.heap H locs D [(h, .inr (8, [.ref rl, .ref mt, .ref pm, .ref al, .ref bd, .ref ct, .ref lg, .ref fp, .int (nI now), .int (nI wk), .int (nI pj), .int ac, .int iy]))])
    exact fx_iret (v := 1) hQ hC hr hlk hH dX8_isWorks_11 rfl (Nat.le_of_ble_eq_true rfl) (Nat.le_of_ble_eq_true rfl) (()) rfl (by first | exact Or.inl ⟨w_inK (by omega) hg8.1 hg8.2, rfl⟩ | exact Or.inr ⟨w_outK (by omega) hg8, rfl⟩)
  · skip
    have hH := (hH : fx_H zA zs.heap H locs D [(h, .inr (8, [.ref rl, .ref mt, .ref pm, .ref al, .ref bd, .ref ct, .ref lg, .ref fp, .int (nI now), .int (nI wk), .int (nI pj), .int ac, .int iy]))])
    exact fx_iret (v := 0) hQ hC hr hlk hH dX8_isWorks_11 rfl (Nat.le_of_ble_eq_true rfl) (Nat.le_of_ble_eq_true rfl) (()) rfl (by first | exact Or.inl ⟨w_inK (by omega) hg8.1 hg8.2, rfl⟩ | exact Or.inr ⟨w_outK (by omega) hg8, rfl⟩)
set_option maxHeartbeats 4000000 in
set_option maxRecDepth 100000 in
theorem k_X7_inForce (l : Launch) (D : va_G) (cI cZ : ClassId) (h : Nat) (r0 : Nat) (r1 : Nat) (r2 : Nat) (r3 : Nat) (r4 : Nat) (r5 : Nat) (k : Nat) (a0 : Nat) (f0 : Nat → Int32) (y : Int32) (hk : k ≤ 30) : fx_CI l D cI cZ yX7_inForce wsX7_inForce ({ frames := 1, cells := 0, slots := 0, locals := 21 }) [.ref h, .int y] [(h, .inr (7, [.ref r0, .ref r1, .ref r2, .ref r3, .ref r4, .ref r5, .int (nI k)])), (r0, .inr (6, [.ref a0])), (a0, .inl (cI, 30, .inl f0))] (fun (u : Unit) => [(h, .inr (7, [.ref r0, .ref r1, .ref r2, .ref r3, .ref r4, .ref r5, .int (nI k)])), (r0, .inr (6, [.ref a0])), (a0, .inl (cI, 30, .inl f0))]) (fun (r : Int32) (u : Unit) => r = inF f0 y k) := by
  refine fx_CI.of (ws' := (wsX7_inForce).tail) cX7_inForce 4 (by decide) rfl (Nat.le_of_ble_eq_true rfl) ?_
  intro zp ze zs zm za zb zt zc zA ls zQ hQ hC hr hlk hA hH hl
  have zx := hC.1.1
  have zy := hC.1.2.1
  have hl : lv_has ls 4 [(0, .ref h), (1, .int y)] := hl
  refine lv_iconst (v := (-1)) zx zy dX7_inForce_0 (by decide) ?_
  refine lv_istore_n (lv' := [(2, .int (-1)), (0, .ref h), (1, .int y)]) zx zy dX7_inForce_1 rfl hl (by decide) rfl (fun ls hl => ?_)
  refine lv_iconst (v := 0) zx zy dX7_inForce_2 (by decide) ?_
  refine lv_topi (fun v1 ev1 => ?_)
  obtain rfl : v1 = nI 0 := ev1.trans (rfl)
  refine lv_istore_n (lv' := [(3, .int (nI 0)), (2, .int (-1)), (0, .ref h), (1, .int y)]) zx zy dX7_inForce_3 rfl hl (by decide) rfl (fun ls hl => ?_)
  have L4 : ∀ (fu : Nat) (i : Nat) (b : Int32) (hi : i ≤ k) (hb : b = inF f0 y i) (H : Heap) (locs : List Loc) (ls : Array Slot), k - i < fu → fx_H zA zs.heap H locs D [(h, .inr (7, [.ref r0, .ref r1, .ref r2, .ref r3, .ref r4, .ref r5, .int (nI k)])), (r0, .inr (6, [.ref a0])), (a0, .inl (cI, 30, .inl f0))] → lv_has ls 4 [(0, .ref h), (1, .int y), (2, .int b), (3, .int (nI i))] → W zp l ze ({ frames := 1, cells := 0, slots := 0, locals := 21 }) zs zm za zb zt zc H locs (0) (0) zQ (F0 zm 4 ls []) := by
    intro fu
    induction fu with
    | zero => intro i b hi hb H locs ls hfu; exact absurd hfu (Nat.not_lt_zero _)
    | succ fu ih4 =>
      intro i b hi hb H locs ls hfu4 hH hl
      refine lv_iload_n zx zy dX7_inForce_4 rfl (lv_at hl 3 rfl) ?_
      refine lv_aload_n zx zy dX7_inForce_5 rfl (lv_at hl 0 rfl) ?_
      refine fx_get (C := RX7) (T := TX7) (N := 7) hC (fun _ h => List.mem_cons_of_mem _ (List.mem_append_left _ (List.mem_append_right _ h))) hH 0 rfl rfl 6 (by decide) (by decide +kernel) rfl dX7_inForce_6 ?_
      refine lv_icmp_ge (tgt := 56) zx zy dX7_inForce_9 (by decide) (fun c9 => ?_) (fun c9 => ?_)
      · skip
        refine lv_iload_n zx zy dX7_inForce_56 rfl (lv_at hl 2 rfl) ?_
        exact fx_iret (v := b) hQ hC hr hlk hH dX7_inForce_57 rfl (Nat.le_of_ble_eq_true rfl) (Nat.le_of_ble_eq_true rfl) (()) rfl (by rw [hb, Nat.le_antisymm hi (fx_le_of c9 (by omega) (by omega))])
      · skip
        have hlt : i < k := fx_lt_of c9 (by omega)
        refine lv_aload_n zx zy dX7_inForce_12 rfl (lv_at hl 0 rfl) ?_
        refine fx_get (C := RX7) (T := TX7) (N := 7) hC (fun _ h => List.mem_cons_of_mem _ (List.mem_append_left _ (List.mem_append_right _ h))) hH 0 rfl rfl 0 (by decide) (by decide +kernel) rfl dX7_inForce_13 ?_
        refine lv_iload_n zx zy dX7_inForce_16 rfl (lv_at hl 3 rfl) ?_
        refine fx_cVi (n := 1) (As := [.int (nI i)]) (b := r0) (rest := []) (fun (u : Unit) => [(h, .inr (7, [.ref r0, .ref r1, .ref r2, .ref r3, .ref r4, .ref r5, .int (nI k)])), (r0, .inr (6, [.ref a0])), (a0, .inl (cI, 30, .inl f0))]) hC hA hH (k_X6_at l D cI cZ r0 a0 30 f0 (nI i) (by first | assumption | omega)) [1, 2] [0] [0, 1, 2] [(h, .inr (7, [.ref r0, .ref r1, .ref r2, .ref r3, .ref r4, .ref r5, .int (nI k)]))] rfl rfl (by decide) (by decide) (fun _ => rfl) rfl gX7_inForce_X6_at (by decide +kernel) ⟨Nat.le_of_ble_eq_true rfl, Nat.le_of_ble_eq_true rfl⟩ 0 rfl rfl rfl rfl rfl hl.1 (Nat.le_of_ble_eq_true rfl) ⟨Nat.le_of_ble_eq_true rfl, Nat.le_of_ble_eq_true rfl⟩ dX7_inForce_17 (fun r2 u H locs hw17 hH => ?_)
        obtain rfl : r2 = rAt 30 f0 (nI i) := hw17
        have hH := (hH : fx_H zA zs.heap H locs D [(h, .inr (7, [.ref r0, .ref r1, .ref r2, .ref r3, .ref r4, .ref r5, .int (nI k)])), (r0, .inr (6, [.ref a0])), (a0, .inl (cI, 30, .inl f0))])
        refine lv_topi (fun v3 ev3 => ?_)
        obtain rfl : v3 = f0 i := ev3.trans (rAt_nI (by omega) (by omega))
        refine lv_iload_n zx zy dX7_inForce_20 rfl (lv_at hl 1 rfl) ?_
        refine lv_icmp_gt (tgt := 50) zx zy dX7_inForce_21 (by decide) (fun c21 => ?_) (fun c21 => ?_)
        · skip
          refine lv_iinc (v := nI (i + 1)) (lv' := [(3, .int (nI (i + 1))), (0, .ref h), (1, .int y), (2, .int b)]) zx zy dX7_inForce_50 hl (k := 3) rfl (nI_1 _) (by decide) rfl (fun ls hl => ?_)
          refine lv_goto (tgt := 4) zx zy dX7_inForce_53 (by decide) ?_
          exact ih4 (i + 1) b (by first | assumption | omega) (by subst hb; first | exact (if_pos c21).symm | exact ((if_neg c21).trans (if_pos c26)).symm | exact ((if_neg c21).trans ((if_neg c26).trans (if_pos c45))).symm | exact ((if_neg c21).trans ((if_neg c26).trans (if_neg c45))).symm) _ _ _ (by omega) hH (lv_sub hl [1, 2, 3, 0] rfl)
        · skip
          refine lv_iload_n zx zy dX7_inForce_24 rfl (lv_at hl 2 rfl) ?_
          refine lv_iconst (v := (-1)) zx zy dX7_inForce_25 (by decide) ?_
          refine lv_icmp_eq (tgt := 48) zx zy dX7_inForce_26 (by decide) (fun c26 => ?_) (fun c26 => ?_)
          · skip
            refine lv_iload_n zx zy dX7_inForce_48 rfl (lv_at hl 3 rfl) ?_
            refine lv_istore_n (lv' := [(2, .int (nI i)), (0, .ref h), (1, .int y), (3, .int (nI i))]) zx zy dX7_inForce_49 rfl hl (by decide) rfl (fun ls hl => ?_)
            refine lv_iinc (v := nI (i + 1)) (lv' := [(3, .int (nI (i + 1))), (2, .int (nI i)), (0, .ref h), (1, .int y)]) zx zy dX7_inForce_50 hl (k := 3) rfl (nI_1 _) (by decide) rfl (fun ls hl => ?_)
            refine lv_goto (tgt := 4) zx zy dX7_inForce_53 (by decide) ?_
            exact ih4 (i + 1) (nI i) (by first | assumption | omega) (by subst hb; first | exact (if_pos c21).symm | exact ((if_neg c21).trans (if_pos c26)).symm | exact ((if_neg c21).trans ((if_neg c26).trans (if_pos c45))).symm | exact ((if_neg c21).trans ((if_neg c26).trans (if_neg c45))).symm) _ _ _ (by omega) hH (lv_sub hl [2, 3, 1, 0] rfl)
          · skip
            refine lv_aload_n zx zy dX7_inForce_29 rfl (lv_at hl 0 rfl) ?_
            refine fx_get (C := RX7) (T := TX7) (N := 7) hC (fun _ h => List.mem_cons_of_mem _ (List.mem_append_left _ (List.mem_append_right _ h))) hH 0 rfl rfl 0 (by decide) (by decide +kernel) rfl dX7_inForce_30 ?_
            refine lv_iload_n zx zy dX7_inForce_33 rfl (lv_at hl 3 rfl) ?_
            refine fx_cVi (n := 1) (As := [.int (nI i)]) (b := r0) (rest := []) (fun (u : Unit) => [(h, .inr (7, [.ref r0, .ref r1, .ref r2, .ref r3, .ref r4, .ref r5, .int (nI k)])), (r0, .inr (6, [.ref a0])), (a0, .inl (cI, 30, .inl f0))]) hC hA hH (k_X6_at l D cI cZ r0 a0 30 f0 (nI i) (by first | assumption | omega)) [1, 2] [0] [0, 1, 2] [(h, .inr (7, [.ref r0, .ref r1, .ref r2, .ref r3, .ref r4, .ref r5, .int (nI k)]))] rfl rfl (by decide) (by decide) (fun _ => rfl) rfl gX7_inForce_X6_at (by decide +kernel) ⟨Nat.le_of_ble_eq_true rfl, Nat.le_of_ble_eq_true rfl⟩ 0 rfl rfl rfl rfl rfl hl.1 (Nat.le_of_ble_eq_true rfl) ⟨Nat.le_of_ble_eq_true rfl, Nat.le_of_ble_eq_true rfl⟩ dX7_inForce_34 (fun r4 u H locs hw34 hH => ?_)
            obtain rfl : r4 = rAt 30 f0 (nI i) := hw34
            have hH := (hH : fx_H zA zs.heap H locs D [(h, .inr (7, [.ref r0, .ref r1, .ref r2, .ref r3, .ref r4, .ref r5, .int (nI k)])), (r0, .inr (6, [.ref a0])), (a0, .inl (cI, 30, .inl f0))])
            refine lv_topi (fun v5 ev5 => ?_)
            obtain rfl : v5 = f0 i := ev5.trans (rAt_nI (by omega) (by omega))
            refine lv_aload_n zx zy dX7_inForce_37 rfl (lv_at hl 0 rfl) ?_
            refine fx_get (C := RX7) (T := TX7) (N := 7) hC (fun _ h => List.mem_cons_of_mem _ (List.mem_append_left _ (List.mem_append_right _ h))) hH 0 rfl rfl 0 (by decide) (by decide +kernel) rfl dX7_inForce_38 ?_
            refine lv_iload_n zx zy dX7_inForce_41 rfl (lv_at hl 2 rfl) ?_
            refine fx_cVi (n := 1) (As := [.int b]) (b := r0) (rest := [.int (f0 i)]) (fun (u : Unit) => [(h, .inr (7, [.ref r0, .ref r1, .ref r2, .ref r3, .ref r4, .ref r5, .int (nI k)])), (r0, .inr (6, [.ref a0])), (a0, .inl (cI, 30, .inl f0))]) hC hA hH (k_X6_at l D cI cZ r0 a0 30 f0 b (by first | assumption | omega)) [1, 2] [0] [0, 1, 2] [(h, .inr (7, [.ref r0, .ref r1, .ref r2, .ref r3, .ref r4, .ref r5, .int (nI k)]))] rfl rfl (by decide) (by decide) (fun _ => rfl) rfl gX7_inForce_X6_at (by decide +kernel) ⟨Nat.le_of_ble_eq_true rfl, Nat.le_of_ble_eq_true rfl⟩ 0 rfl rfl rfl rfl rfl hl.1 (Nat.le_of_ble_eq_true rfl) ⟨Nat.le_of_ble_eq_true rfl, Nat.le_of_ble_eq_true rfl⟩ dX7_inForce_42 (fun r6 u H locs hw42 hH => ?_)
            obtain rfl : r6 = rAt 30 f0 b := hw42
            have hH := (hH : fx_H zA zs.heap H locs D [(h, .inr (7, [.ref r0, .ref r1, .ref r2, .ref r3, .ref r4, .ref r5, .int (nI k)])), (r0, .inr (6, [.ref a0])), (a0, .inl (cI, 30, .inl f0))])
            refine lv_icmp_lt (tgt := 50) zx zy dX7_inForce_45 (by decide) (fun c45 => ?_) (fun c45 => ?_)
            · skip
              refine lv_iinc (v := nI (i + 1)) (lv' := [(3, .int (nI (i + 1))), (0, .ref h), (1, .int y), (2, .int b)]) zx zy dX7_inForce_50 hl (k := 3) rfl (nI_1 _) (by decide) rfl (fun ls hl => ?_)
              refine lv_goto (tgt := 4) zx zy dX7_inForce_53 (by decide) ?_
              exact ih4 (i + 1) b (by first | assumption | omega) (by subst hb; first | exact (if_pos c21).symm | exact ((if_neg c21).trans (if_pos c26)).symm | exact ((if_neg c21).trans ((if_neg c26).trans (if_pos c45))).symm | exact ((if_neg c21).trans ((if_neg c26).trans (if_neg c45))).symm) _ _ _ (by omega) hH (lv_sub hl [1, 2, 3, 0] rfl)
            · skip
              refine lv_iload_n zx zy dX7_inForce_48 rfl (lv_at hl 3 rfl) ?_
              refine lv_istore_n (lv' := [(2, .int (nI i)), (0, .ref h), (1, .int y), (3, .int (nI i))]) zx zy dX7_inForce_49 rfl hl (by decide) rfl (fun ls hl => ?_)
              refine lv_iinc (v := nI (i + 1)) (lv' := [(3, .int (nI (i + 1))), (2, .int (nI i)), (0, .ref h), (1, .int y)]) zx zy dX7_inForce_50 hl (k := 3) rfl (nI_1 _) (by decide) rfl (fun ls hl => ?_)
              refine lv_goto (tgt := 4) zx zy dX7_inForce_53 (by decide) ?_
              exact ih4 (i + 1) (nI i) (by first | assumption | omega) (by subst hb; first | exact (if_pos c21).symm | exact ((if_neg c21).trans (if_pos c26)).symm | exact ((if_neg c21).trans ((if_neg c26).trans (if_pos c45))).symm | exact ((if_neg c21).trans ((if_neg c26).trans (if_neg c45))).symm) _ _ _ (by omega) hH (lv_sub hl [2, 3, 1, 0] rfl)
  exact L4 _ 0 (-1) (by first | assumption | omega) (rfl) _ _ _ (Nat.lt_succ_self _) hH (lv_sub hl [2, 3, 1, 0] rfl)
set_option maxHeartbeats 4000000 in
set_option maxRecDepth 100000 in
theorem k_X7_shareIn (l : Launch) (D : va_G) (cI cZ : ClassId) (h : Nat) (r0 : Nat) (r1 : Nat) (r2 : Nat) (r3 : Nat) (r4 : Nat) (r5 : Nat) (k : Nat) (a0 : Nat) (a3 : Nat) (f0 : Nat → Int32) (f3 : Nat → Int32) (y : Int32) (hk : k ≤ 30) : fx_CI l D cI cZ yX7_shareIn wsX7_shareIn ({ frames := 2, cells := 0, slots := 0, locals := 44 }) [.ref h, .int y] [(h, .inr (7, [.ref r0, .ref r1, .ref r2, .ref r3, .ref r4, .ref r5, .int (nI k)])), (r0, .inr (6, [.ref a0])), (a0, .inl (cI, 30, .inl f0)), (r3, .inr (6, [.ref a3])), (a3, .inl (cI, 30, .inl f3))] (fun (u : Unit) => [(h, .inr (7, [.ref r0, .ref r1, .ref r2, .ref r3, .ref r4, .ref r5, .int (nI k)])), (r0, .inr (6, [.ref a0])), (a0, .inl (cI, 30, .inl f0)), (r3, .inr (6, [.ref a3])), (a3, .inl (cI, 30, .inl f3))]) (fun (r : Int32) (u : Unit) => r = rAt 30 f3 (inF f0 y k)) := by
  refine fx_CI.of (ws' := (wsX7_shareIn).tail) cX7_shareIn 2 (by decide) rfl (Nat.le_of_ble_eq_true rfl) ?_
  intro zp ze zs zm za zb zt zc zA ls zQ hQ hC hr hlk hA hH hl
  have zx := hC.1.1
  have zy := hC.1.2.1
  have hl : lv_has ls 2 [(0, .ref h), (1, .int y)] := hl
  refine lv_aload_n zx zy dX7_shareIn_0 rfl (lv_at hl 0 rfl) ?_
  refine fx_get (C := RX7) (T := TX7) (N := 7) hC (fun _ h => List.mem_cons_of_mem _ (List.mem_append_left _ (List.mem_append_right _ h))) hH 0 rfl rfl 3 (by decide) (by decide +kernel) rfl dX7_shareIn_1 ?_
  refine lv_aload_n zx zy dX7_shareIn_4 rfl (lv_at hl 0 rfl) ?_
  refine lv_iload_n zx zy dX7_shareIn_5 rfl (lv_at hl 1 rfl) ?_
  refine fx_cVi (n := 1) (As := [.int y]) (b := h) (rest := [.ref r3]) (fun (u : Unit) => [(h, .inr (7, [.ref r0, .ref r1, .ref r2, .ref r3, .ref r4, .ref r5, .int (nI k)])), (r0, .inr (6, [.ref a0])), (a0, .inl (cI, 30, .inl f0)), (r3, .inr (6, [.ref a3])), (a3, .inl (cI, 30, .inl f3))]) hC hA hH (k_X7_inForce l D cI cZ h r0 r1 r2 r3 r4 r5 k a0 f0 y (by first | assumption | omega)) [0, 1, 2] [3, 4] [2, 3, 4, 0, 1] [(r3, .inr (6, [.ref a3])), (a3, .inl (cI, 30, .inl f3))] rfl rfl (by decide) (by decide) (fun _ => rfl) rfl gX7_shareIn_X7_inForce (by decide +kernel) ⟨Nat.le_of_ble_eq_true rfl, Nat.le_of_ble_eq_true rfl⟩ 0 rfl rfl rfl rfl rfl hl.1 (Nat.le_of_ble_eq_true rfl) ⟨Nat.le_of_ble_eq_true rfl, Nat.le_of_ble_eq_true rfl⟩ dX7_shareIn_6 (fun r1 u H locs hw6 hH => ?_)
  obtain rfl : r1 = inF f0 y k := hw6
  have hH := (hH : fx_H zA zs.heap H locs D [(h, .inr (7, [.ref r0, .ref r1, .ref r2, .ref r3, .ref r4, .ref r5, .int (nI k)])), (r0, .inr (6, [.ref a0])), (a0, .inl (cI, 30, .inl f0)), (r3, .inr (6, [.ref a3])), (a3, .inl (cI, 30, .inl f3))])
  refine fx_cVi (n := 1) (As := [.int (inF f0 y k)]) (b := r3) (rest := []) (fun (u : Unit) => [(h, .inr (7, [.ref r0, .ref r1, .ref r2, .ref r3, .ref r4, .ref r5, .int (nI k)])), (r0, .inr (6, [.ref a0])), (a0, .inl (cI, 30, .inl f0)), (r3, .inr (6, [.ref a3])), (a3, .inl (cI, 30, .inl f3))]) hC hA hH (k_X6_at l D cI cZ r3 a3 30 f3 (inF f0 y k) (by first | assumption | omega)) [3, 4] [0, 1, 2] [0, 1, 2, 3, 4] [(h, .inr (7, [.ref r0, .ref r1, .ref r2, .ref r3, .ref r4, .ref r5, .int (nI k)])), (r0, .inr (6, [.ref a0])), (a0, .inl (cI, 30, .inl f0))] rfl rfl (by decide) (by decide) (fun _ => rfl) rfl gX7_shareIn_X6_at (by decide +kernel) ⟨Nat.le_of_ble_eq_true rfl, Nat.le_of_ble_eq_true rfl⟩ 0 rfl rfl rfl rfl rfl hl.1 (Nat.le_of_ble_eq_true rfl) ⟨Nat.le_of_ble_eq_true rfl, Nat.le_of_ble_eq_true rfl⟩ dX7_shareIn_9 (fun r2 u H locs hw9 hH => ?_)
  obtain rfl : r2 = rAt 30 f3 (inF f0 y k) := hw9
  have hH := (hH : fx_H zA zs.heap H locs D [(h, .inr (7, [.ref r0, .ref r1, .ref r2, .ref r3, .ref r4, .ref r5, .int (nI k)])), (r0, .inr (6, [.ref a0])), (a0, .inl (cI, 30, .inl f0)), (r3, .inr (6, [.ref a3])), (a3, .inl (cI, 30, .inl f3))])
  exact fx_iret (v := rAt 30 f3 (inF f0 y k)) hQ hC hr hlk hH dX7_shareIn_12 rfl (Nat.le_of_ble_eq_true rfl) (Nat.le_of_ble_eq_true rfl) (()) rfl (rfl)
set_option maxHeartbeats 4000000 in
set_option maxRecDepth 100000 in
theorem k_X7_fineIn (l : Launch) (D : va_G) (cI cZ : ClassId) (h : Nat) (r0 : Nat) (r1 : Nat) (r2 : Nat) (r3 : Nat) (r4 : Nat) (r5 : Nat) (k : Nat) (a0 : Nat) (a4 : Nat) (f0 : Nat → Int32) (f4 : Nat → Int32) (y : Int32) (hk : k ≤ 30) : fx_CI l D cI cZ yX7_fineIn wsX7_fineIn ({ frames := 2, cells := 0, slots := 0, locals := 44 }) [.ref h, .int y] [(h, .inr (7, [.ref r0, .ref r1, .ref r2, .ref r3, .ref r4, .ref r5, .int (nI k)])), (r0, .inr (6, [.ref a0])), (a0, .inl (cI, 30, .inl f0)), (r4, .inr (6, [.ref a4])), (a4, .inl (cI, 30, .inl f4))] (fun (u : Unit) => [(h, .inr (7, [.ref r0, .ref r1, .ref r2, .ref r3, .ref r4, .ref r5, .int (nI k)])), (r0, .inr (6, [.ref a0])), (a0, .inl (cI, 30, .inl f0)), (r4, .inr (6, [.ref a4])), (a4, .inl (cI, 30, .inl f4))]) (fun (r : Int32) (u : Unit) => r = rAt 30 f4 (inF f0 y k)) := by
  refine fx_CI.of (ws' := (wsX7_fineIn).tail) cX7_fineIn 2 (by decide) rfl (Nat.le_of_ble_eq_true rfl) ?_
  intro zp ze zs zm za zb zt zc zA ls zQ hQ hC hr hlk hA hH hl
  have zx := hC.1.1
  have zy := hC.1.2.1
  have hl : lv_has ls 2 [(0, .ref h), (1, .int y)] := hl
  refine lv_aload_n zx zy dX7_fineIn_0 rfl (lv_at hl 0 rfl) ?_
  refine fx_get (C := RX7) (T := TX7) (N := 7) hC (fun _ h => List.mem_cons_of_mem _ (List.mem_append_left _ (List.mem_append_right _ h))) hH 0 rfl rfl 4 (by decide) (by decide +kernel) rfl dX7_fineIn_1 ?_
  refine lv_aload_n zx zy dX7_fineIn_4 rfl (lv_at hl 0 rfl) ?_
  refine lv_iload_n zx zy dX7_fineIn_5 rfl (lv_at hl 1 rfl) ?_
  refine fx_cVi (n := 1) (As := [.int y]) (b := h) (rest := [.ref r4]) (fun (u : Unit) => [(h, .inr (7, [.ref r0, .ref r1, .ref r2, .ref r3, .ref r4, .ref r5, .int (nI k)])), (r0, .inr (6, [.ref a0])), (a0, .inl (cI, 30, .inl f0)), (r4, .inr (6, [.ref a4])), (a4, .inl (cI, 30, .inl f4))]) hC hA hH (k_X7_inForce l D cI cZ h r0 r1 r2 r3 r4 r5 k a0 f0 y (by first | assumption | omega)) [0, 1, 2] [3, 4] [2, 3, 4, 0, 1] [(r4, .inr (6, [.ref a4])), (a4, .inl (cI, 30, .inl f4))] rfl rfl (by decide) (by decide) (fun _ => rfl) rfl gX7_fineIn_X7_inForce (by decide +kernel) ⟨Nat.le_of_ble_eq_true rfl, Nat.le_of_ble_eq_true rfl⟩ 0 rfl rfl rfl rfl rfl hl.1 (Nat.le_of_ble_eq_true rfl) ⟨Nat.le_of_ble_eq_true rfl, Nat.le_of_ble_eq_true rfl⟩ dX7_fineIn_6 (fun r1 u H locs hw6 hH => ?_)
  obtain rfl : r1 = inF f0 y k := hw6
  have hH := (hH : fx_H zA zs.heap H locs D [(h, .inr (7, [.ref r0, .ref r1, .ref r2, .ref r3, .ref r4, .ref r5, .int (nI k)])), (r0, .inr (6, [.ref a0])), (a0, .inl (cI, 30, .inl f0)), (r4, .inr (6, [.ref a4])), (a4, .inl (cI, 30, .inl f4))])
  refine fx_cVi (n := 1) (As := [.int (inF f0 y k)]) (b := r4) (rest := []) (fun (u : Unit) => [(h, .inr (7, [.ref r0, .ref r1, .ref r2, .ref r3, .ref r4, .ref r5, .int (nI k)])), (r0, .inr (6, [.ref a0])), (a0, .inl (cI, 30, .inl f0)), (r4, .inr (6, [.ref a4])), (a4, .inl (cI, 30, .inl f4))]) hC hA hH (k_X6_at l D cI cZ r4 a4 30 f4 (inF f0 y k) (by first | assumption | omega)) [3, 4] [0, 1, 2] [0, 1, 2, 3, 4] [(h, .inr (7, [.ref r0, .ref r1, .ref r2, .ref r3, .ref r4, .ref r5, .int (nI k)])), (r0, .inr (6, [.ref a0])), (a0, .inl (cI, 30, .inl f0))] rfl rfl (by decide) (by decide) (fun _ => rfl) rfl gX7_fineIn_X6_at (by decide +kernel) ⟨Nat.le_of_ble_eq_true rfl, Nat.le_of_ble_eq_true rfl⟩ 0 rfl rfl rfl rfl rfl hl.1 (Nat.le_of_ble_eq_true rfl) ⟨Nat.le_of_ble_eq_true rfl, Nat.le_of_ble_eq_true rfl⟩ dX7_fineIn_9 (fun r2 u H locs hw9 hH => ?_)
  obtain rfl : r2 = rAt 30 f4 (inF f0 y k) := hw9
  have hH := (hH : fx_H zA zs.heap H locs D [(h, .inr (7, [.ref r0, .ref r1, .ref r2, .ref r3, .ref r4, .ref r5, .int (nI k)])), (r0, .inr (6, [.ref a0])), (a0, .inl (cI, 30, .inl f0)), (r4, .inr (6, [.ref a4])), (a4, .inl (cI, 30, .inl f4))])
  exact fx_iret (v := rAt 30 f4 (inF f0 y k)) hQ hC hr hlk hH dX7_fineIn_12 rfl (Nat.le_of_ble_eq_true rfl) (Nat.le_of_ble_eq_true rfl) (()) rfl (rfl)
set_option maxHeartbeats 4000000 in
set_option maxRecDepth 100000 in
theorem k_X7_floorIn (l : Launch) (D : va_G) (cI cZ : ClassId) (h : Nat) (r0 : Nat) (r1 : Nat) (r2 : Nat) (r3 : Nat) (r4 : Nat) (r5 : Nat) (k : Nat) (a0 : Nat) (a5 : Nat) (f0 : Nat → Int32) (f5 : Nat → Int32) (y : Int32) (hk : k ≤ 30) : fx_CI l D cI cZ yX7_floorIn wsX7_floorIn ({ frames := 2, cells := 0, slots := 0, locals := 44 }) [.ref h, .int y] [(h, .inr (7, [.ref r0, .ref r1, .ref r2, .ref r3, .ref r4, .ref r5, .int (nI k)])), (r0, .inr (6, [.ref a0])), (a0, .inl (cI, 30, .inl f0)), (r5, .inr (6, [.ref a5])), (a5, .inl (cI, 30, .inl f5))] (fun (u : Unit) => [(h, .inr (7, [.ref r0, .ref r1, .ref r2, .ref r3, .ref r4, .ref r5, .int (nI k)])), (r0, .inr (6, [.ref a0])), (a0, .inl (cI, 30, .inl f0)), (r5, .inr (6, [.ref a5])), (a5, .inl (cI, 30, .inl f5))]) (fun (r : Int32) (u : Unit) => r = rAt 30 f5 (inF f0 y k)) := by
  refine fx_CI.of (ws' := (wsX7_floorIn).tail) cX7_floorIn 2 (by decide) rfl (Nat.le_of_ble_eq_true rfl) ?_
  intro zp ze zs zm za zb zt zc zA ls zQ hQ hC hr hlk hA hH hl
  have zx := hC.1.1
  have zy := hC.1.2.1
  have hl : lv_has ls 2 [(0, .ref h), (1, .int y)] := hl
  refine lv_aload_n zx zy dX7_floorIn_0 rfl (lv_at hl 0 rfl) ?_
  refine fx_get (C := RX7) (T := TX7) (N := 7) hC (fun _ h => List.mem_cons_of_mem _ (List.mem_append_left _ (List.mem_append_right _ h))) hH 0 rfl rfl 5 (by decide) (by decide +kernel) rfl dX7_floorIn_1 ?_
  refine lv_aload_n zx zy dX7_floorIn_4 rfl (lv_at hl 0 rfl) ?_
  refine lv_iload_n zx zy dX7_floorIn_5 rfl (lv_at hl 1 rfl) ?_
  refine fx_cVi (n := 1) (As := [.int y]) (b := h) (rest := [.ref r5]) (fun (u : Unit) => [(h, .inr (7, [.ref r0, .ref r1, .ref r2, .ref r3, .ref r4, .ref r5, .int (nI k)])), (r0, .inr (6, [.ref a0])), (a0, .inl (cI, 30, .inl f0)), (r5, .inr (6, [.ref a5])), (a5, .inl (cI, 30, .inl f5))]) hC hA hH (k_X7_inForce l D cI cZ h r0 r1 r2 r3 r4 r5 k a0 f0 y (by first | assumption | omega)) [0, 1, 2] [3, 4] [2, 3, 4, 0, 1] [(r5, .inr (6, [.ref a5])), (a5, .inl (cI, 30, .inl f5))] rfl rfl (by decide) (by decide) (fun _ => rfl) rfl gX7_floorIn_X7_inForce (by decide +kernel) ⟨Nat.le_of_ble_eq_true rfl, Nat.le_of_ble_eq_true rfl⟩ 0 rfl rfl rfl rfl rfl hl.1 (Nat.le_of_ble_eq_true rfl) ⟨Nat.le_of_ble_eq_true rfl, Nat.le_of_ble_eq_true rfl⟩ dX7_floorIn_6 (fun r1 u H locs hw6 hH => ?_)
  obtain rfl : r1 = inF f0 y k := hw6
  have hH := (hH : fx_H zA zs.heap H locs D [(h, .inr (7, [.ref r0, .ref r1, .ref r2, .ref r3, .ref r4, .ref r5, .int (nI k)])), (r0, .inr (6, [.ref a0])), (a0, .inl (cI, 30, .inl f0)), (r5, .inr (6, [.ref a5])), (a5, .inl (cI, 30, .inl f5))])
  refine fx_cVi (n := 1) (As := [.int (inF f0 y k)]) (b := r5) (rest := []) (fun (u : Unit) => [(h, .inr (7, [.ref r0, .ref r1, .ref r2, .ref r3, .ref r4, .ref r5, .int (nI k)])), (r0, .inr (6, [.ref a0])), (a0, .inl (cI, 30, .inl f0)), (r5, .inr (6, [.ref a5])), (a5, .inl (cI, 30, .inl f5))]) hC hA hH (k_X6_at l D cI cZ r5 a5 30 f5 (inF f0 y k) (by first | assumption | omega)) [3, 4] [0, 1, 2] [0, 1, 2, 3, 4] [(h, .inr (7, [.ref r0, .ref r1, .ref r2, .ref r3, .ref r4, .ref r5, .int (nI k)])), (r0, .inr (6, [.ref a0])), (a0, .inl (cI, 30, .inl f0))] rfl rfl (by decide) (by decide) (fun _ => rfl) rfl gX7_floorIn_X6_at (by decide +kernel) ⟨Nat.le_of_ble_eq_true rfl, Nat.le_of_ble_eq_true rfl⟩ 0 rfl rfl rfl rfl rfl hl.1 (Nat.le_of_ble_eq_true rfl) ⟨Nat.le_of_ble_eq_true rfl, Nat.le_of_ble_eq_true rfl⟩ dX7_floorIn_9 (fun r2 u H locs hw9 hH => ?_)
  obtain rfl : r2 = rAt 30 f5 (inF f0 y k) := hw9
  have hH := (hH : fx_H zA zs.heap H locs D [(h, .inr (7, [.ref r0, .ref r1, .ref r2, .ref r3, .ref r4, .ref r5, .int (nI k)])), (r0, .inr (6, [.ref a0])), (a0, .inl (cI, 30, .inl f0)), (r5, .inr (6, [.ref a5])), (a5, .inl (cI, 30, .inl f5))])
  exact fx_iret (v := rAt 30 f5 (inF f0 y k)) hQ hC hr hlk hH dX7_floorIn_12 rfl (Nat.le_of_ble_eq_true rfl) (Nat.le_of_ble_eq_true rfl) (()) rfl (rfl)
set_option maxHeartbeats 4000000 in
set_option maxRecDepth 100000 in
theorem k_X7_capIn (l : Launch) (D : va_G) (cI cZ : ClassId) (h : Nat) (r0 : Nat) (r1 : Nat) (r2 : Nat) (r3 : Nat) (r4 : Nat) (r5 : Nat) (k : Nat) (a0 : Nat) (a1 : Nat) (a2 : Nat) (f0 : Nat → Int32) (f1 : Nat → Int32) (f2 : Nat → Int32) (y : Nat) (hk : k ≤ 30) (hy : y ≤ 20) (hF : ∀ j, j < k → ∃ v, v < 20 ∧ f0 j = nI v) : fx_CI l D cI cZ yX7_capIn wsX7_capIn ({ frames := 2, cells := 0, slots := 0, locals := 44 }) [.ref h, .int (nI y)] [(h, .inr (7, [.ref r0, .ref r1, .ref r2, .ref r3, .ref r4, .ref r5, .int (nI k)])), (r0, .inr (6, [.ref a0])), (a0, .inl (cI, 30, .inl f0)), (r1, .inr (6, [.ref a1])), (a1, .inl (cI, 30, .inl f1)), (r2, .inr (6, [.ref a2])), (a2, .inl (cI, 30, .inl f2))] (fun (u : Unit) => [(h, .inr (7, [.ref r0, .ref r1, .ref r2, .ref r3, .ref r4, .ref r5, .int (nI k)])), (r0, .inr (6, [.ref a0])), (a0, .inl (cI, 30, .inl f0)), (r1, .inr (6, [.ref a1])), (a1, .inl (cI, 30, .inl f1)), (r2, .inr (6, [.ref a2])), (a2, .inl (cI, 30, .inl f2))]) (fun (r : Int32) (u : Unit) => r = capV f0 f1 f2 k y) := by
  refine fx_CI.of (ws' := (wsX7_capIn).tail) cX7_capIn 5 (by decide) rfl (Nat.le_of_ble_eq_true rfl) ?_
  intro zp ze zs zm za zb zt zc zA ls zQ hQ hC hr hlk hA hH hl
  have zx := hC.1.1
  have zy := hC.1.2.1
  have hl : lv_has ls 5 [(0, .ref h), (1, .int (nI y))] := hl
  obtain ⟨v0, hv0, ev0⟩ : ∃ v, v < 20 ∧ rAt 30 f0 (inF f0 (nI y) k) = nI v := inF_at (P := fun z => ∃ v, v < 20 ∧ z = nI v) hk ⟨0, by omega, rfl⟩ hF
  refine lv_aload_n zx zy dX7_capIn_0 rfl (lv_at hl 0 rfl) ?_
  refine lv_iload_n zx zy dX7_capIn_1 rfl (lv_at hl 1 rfl) ?_
  refine fx_cVi (n := 1) (As := [.int (nI y)]) (b := h) (rest := []) (fun (u : Unit) => [(h, .inr (7, [.ref r0, .ref r1, .ref r2, .ref r3, .ref r4, .ref r5, .int (nI k)])), (r0, .inr (6, [.ref a0])), (a0, .inl (cI, 30, .inl f0)), (r1, .inr (6, [.ref a1])), (a1, .inl (cI, 30, .inl f1)), (r2, .inr (6, [.ref a2])), (a2, .inl (cI, 30, .inl f2))]) hC hA hH (k_X7_inForce l D cI cZ h r0 r1 r2 r3 r4 r5 k a0 f0 (nI y) (by first | assumption | omega)) [0, 1, 2] [3, 4, 5, 6] [4, 5, 6, 0, 1, 2, 3] [(r1, .inr (6, [.ref a1])), (a1, .inl (cI, 30, .inl f1)), (r2, .inr (6, [.ref a2])), (a2, .inl (cI, 30, .inl f2))] rfl rfl (by decide) (by decide) (fun _ => rfl) rfl gX7_capIn_X7_inForce (by decide +kernel) ⟨Nat.le_of_ble_eq_true rfl, Nat.le_of_ble_eq_true rfl⟩ 0 rfl rfl rfl rfl rfl hl.1 (Nat.le_of_ble_eq_true rfl) ⟨Nat.le_of_ble_eq_true rfl, Nat.le_of_ble_eq_true rfl⟩ dX7_capIn_2 (fun r1 u H locs hw2 hH => ?_)
  obtain rfl : r1 = inF f0 (nI y) k := hw2
  have hH := (hH : fx_H zA zs.heap H locs D [(h, .inr (7, [.ref r0, .ref r1, .ref r2, .ref r3, .ref r4, .ref r5, .int (nI k)])), (r0, .inr (6, [.ref a0])), (a0, .inl (cI, 30, .inl f0)), (r1, .inr (6, [.ref a1])), (a1, .inl (cI, 30, .inl f1)), (r2, .inr (6, [.ref a2])), (a2, .inl (cI, 30, .inl f2))])
  refine lv_istore_n (lv' := [(2, .int (inF f0 (nI y) k)), (0, .ref h), (1, .int (nI y))]) zx zy dX7_capIn_5 rfl hl (by decide) rfl (fun ls hl => ?_)
  refine lv_aload_n zx zy dX7_capIn_6 rfl (lv_at hl 1 rfl) ?_
  refine fx_get (C := RX7) (T := TX7) (N := 7) hC (fun _ h => List.mem_cons_of_mem _ (List.mem_append_left _ (List.mem_append_right _ h))) hH 0 rfl rfl 1 (by decide) (by decide +kernel) rfl dX7_capIn_7 ?_
  refine lv_iload_n zx zy dX7_capIn_10 rfl (lv_at hl 0 rfl) ?_
  refine fx_cVi (n := 1) (As := [.int (inF f0 (nI y) k)]) (b := r1) (rest := []) (fun (u : Unit) => [(h, .inr (7, [.ref r0, .ref r1, .ref r2, .ref r3, .ref r4, .ref r5, .int (nI k)])), (r0, .inr (6, [.ref a0])), (a0, .inl (cI, 30, .inl f0)), (r1, .inr (6, [.ref a1])), (a1, .inl (cI, 30, .inl f1)), (r2, .inr (6, [.ref a2])), (a2, .inl (cI, 30, .inl f2))]) hC hA hH (k_X6_at l D cI cZ r1 a1 30 f1 (inF f0 (nI y) k) (by first | assumption | omega)) [3, 4] [0, 1, 2, 5, 6] [0, 1, 2, 5, 6, 3, 4] [(h, .inr (7, [.ref r0, .ref r1, .ref r2, .ref r3, .ref r4, .ref r5, .int (nI k)])), (r0, .inr (6, [.ref a0])), (a0, .inl (cI, 30, .inl f0)), (r2, .inr (6, [.ref a2])), (a2, .inl (cI, 30, .inl f2))] rfl rfl (by decide) (by decide) (fun _ => rfl) rfl gX7_capIn_X6_at (by decide +kernel) ⟨Nat.le_of_ble_eq_true rfl, Nat.le_of_ble_eq_true rfl⟩ 0 rfl rfl rfl rfl rfl hl.1 (Nat.le_of_ble_eq_true rfl) ⟨Nat.le_of_ble_eq_true rfl, Nat.le_of_ble_eq_true rfl⟩ dX7_capIn_11 (fun r2 u H locs hw11 hH => ?_)
  obtain rfl : r2 = rAt 30 f1 (inF f0 (nI y) k) := hw11
  have hH := (hH : fx_H zA zs.heap H locs D [(h, .inr (7, [.ref r0, .ref r1, .ref r2, .ref r3, .ref r4, .ref r5, .int (nI k)])), (r0, .inr (6, [.ref a0])), (a0, .inl (cI, 30, .inl f0)), (r1, .inr (6, [.ref a1])), (a1, .inl (cI, 30, .inl f1)), (r2, .inr (6, [.ref a2])), (a2, .inl (cI, 30, .inl f2))])
  refine lv_istore_n (lv' := [(3, .int (rAt 30 f1 (inF f0 (nI y) k))), (2, .int (inF f0 (nI y) k)), (0, .ref h), (1, .int (nI y))]) zx zy dX7_capIn_14 rfl hl (by decide) rfl (fun ls hl => ?_)
  refine lv_aload_n zx zy dX7_capIn_15 rfl (lv_at hl 2 rfl) ?_
  refine fx_get (C := RX7) (T := TX7) (N := 7) hC (fun _ h => List.mem_cons_of_mem _ (List.mem_append_left _ (List.mem_append_right _ h))) hH 0 rfl rfl 0 (by decide) (by decide +kernel) rfl dX7_capIn_16 ?_
  refine lv_iload_n zx zy dX7_capIn_19 rfl (lv_at hl 1 rfl) ?_
  refine fx_cVi (n := 1) (As := [.int (inF f0 (nI y) k)]) (b := r0) (rest := []) (fun (u : Unit) => [(h, .inr (7, [.ref r0, .ref r1, .ref r2, .ref r3, .ref r4, .ref r5, .int (nI k)])), (r0, .inr (6, [.ref a0])), (a0, .inl (cI, 30, .inl f0)), (r1, .inr (6, [.ref a1])), (a1, .inl (cI, 30, .inl f1)), (r2, .inr (6, [.ref a2])), (a2, .inl (cI, 30, .inl f2))]) hC hA hH (k_X6_at l D cI cZ r0 a0 30 f0 (inF f0 (nI y) k) (by first | assumption | omega)) [1, 2] [0, 3, 4, 5, 6] [0, 5, 6, 1, 2, 3, 4] [(h, .inr (7, [.ref r0, .ref r1, .ref r2, .ref r3, .ref r4, .ref r5, .int (nI k)])), (r1, .inr (6, [.ref a1])), (a1, .inl (cI, 30, .inl f1)), (r2, .inr (6, [.ref a2])), (a2, .inl (cI, 30, .inl f2))] rfl rfl (by decide) (by decide) (fun _ => rfl) rfl gX7_capIn_X6_at (by decide +kernel) ⟨Nat.le_of_ble_eq_true rfl, Nat.le_of_ble_eq_true rfl⟩ 0 rfl rfl rfl rfl rfl hl.1 (Nat.le_of_ble_eq_true rfl) ⟨Nat.le_of_ble_eq_true rfl, Nat.le_of_ble_eq_true rfl⟩ dX7_capIn_20 (fun r3 u H locs hw20 hH => ?_)
  obtain rfl : r3 = rAt 30 f0 (inF f0 (nI y) k) := hw20
  have hH := (hH : fx_H zA zs.heap H locs D [(h, .inr (7, [.ref r0, .ref r1, .ref r2, .ref r3, .ref r4, .ref r5, .int (nI k)])), (r0, .inr (6, [.ref a0])), (a0, .inl (cI, 30, .inl f0)), (r1, .inr (6, [.ref a1])), (a1, .inl (cI, 30, .inl f1)), (r2, .inr (6, [.ref a2])), (a2, .inl (cI, 30, .inl f2))])
  refine lv_topi (fun v4 ev4 => ?_)
  obtain rfl : v4 = nI v0 := ev4.trans (ev0)
  refine lv_istore (lv' := [(4, .int (nI v0)), (3, .int (rAt 30 f1 (inF f0 (nI y) k))), (2, .int (inF f0 (nI y) k)), (0, .ref h), (1, .int (nI y))]) zx zy dX7_capIn_23 hl (by decide) rfl (fun ls hl => ?_)
  have L25 : ∀ (fu : Nat) (v : Nat) (c : Int32) (hv : v < 21) (hc : capGo (rAt 30 f2 (inF f0 (nI y) k)) (y - v) c = capV f0 f1 f2 k y) (H : Heap) (locs : List Loc) (ls : Array Slot), y - v < fu → fx_H zA zs.heap H locs D [(h, .inr (7, [.ref r0, .ref r1, .ref r2, .ref r3, .ref r4, .ref r5, .int (nI k)])), (r0, .inr (6, [.ref a0])), (a0, .inl (cI, 30, .inl f0)), (r1, .inr (6, [.ref a1])), (a1, .inl (cI, 30, .inl f1)), (r2, .inr (6, [.ref a2])), (a2, .inl (cI, 30, .inl f2))] → lv_has ls 5 [(0, .ref h), (1, .int (nI y)), (2, .int (inF f0 (nI y) k)), (3, .int c), (4, .int (nI v))] → W zp l ze ({ frames := 2, cells := 0, slots := 0, locals := 44 }) zs zm za zb zt zc H locs (0) (0) zQ (F0 zm 25 ls []) := by
    intro fu
    induction fu with
    | zero => intro v c hv hc H locs ls hfu; exact absurd hfu (Nat.not_lt_zero _)
    | succ fu ih25 =>
      intro v c hv hc H locs ls hfu25 hH hl
      refine lv_iload zx zy dX7_capIn_25 (lv_at hl 4 rfl) ?_
      refine lv_iload_n zx zy dX7_capIn_27 rfl (lv_at hl 1 rfl) ?_
      refine lv_icmp_ge (tgt := 53) zx zy dX7_capIn_28 (by decide) (fun c28 => ?_) (fun c28 => ?_)
      · skip
        refine lv_iload_n zx zy dX7_capIn_53 rfl (lv_at hl 3 rfl) ?_
        exact fx_iret (v := c) hQ hC hr hlk hH dX7_capIn_54 rfl (Nat.le_of_ble_eq_true rfl) (Nat.le_of_ble_eq_true rfl) (()) rfl (by rw [← hc, show y - v = 0 from Nat.sub_eq_zero_of_le (fx_le_of c28 (by omega) (by omega))]; rfl)
      · skip
        have hlt : v < y := fx_lt_of c28 (by omega)
        refine lv_iload_n zx zy dX7_capIn_31 rfl (lv_at hl 3 rfl) ?_
        refine lv_iload_n zx zy dX7_capIn_32 rfl (lv_at hl 3 rfl) ?_
        refine lv_aload_n zx zy dX7_capIn_33 rfl (lv_at hl 0 rfl) ?_
        refine fx_get (C := RX7) (T := TX7) (N := 7) hC (fun _ h => List.mem_cons_of_mem _ (List.mem_append_left _ (List.mem_append_right _ h))) hH 0 rfl rfl 2 (by decide) (by decide +kernel) rfl dX7_capIn_34 ?_
        refine lv_iload_n zx zy dX7_capIn_37 rfl (lv_at hl 2 rfl) ?_
        refine fx_cVi (n := 1) (As := [.int (inF f0 (nI y) k)]) (b := r2) (rest := [.int c, .int c]) (fun (u : Unit) => [(h, .inr (7, [.ref r0, .ref r1, .ref r2, .ref r3, .ref r4, .ref r5, .int (nI k)])), (r0, .inr (6, [.ref a0])), (a0, .inl (cI, 30, .inl f0)), (r1, .inr (6, [.ref a1])), (a1, .inl (cI, 30, .inl f1)), (r2, .inr (6, [.ref a2])), (a2, .inl (cI, 30, .inl f2))]) hC hA hH (k_X6_at l D cI cZ r2 a2 30 f2 (inF f0 (nI y) k) (by first | assumption | omega)) [5, 6] [0, 1, 2, 3, 4] [0, 1, 2, 3, 4, 5, 6] [(h, .inr (7, [.ref r0, .ref r1, .ref r2, .ref r3, .ref r4, .ref r5, .int (nI k)])), (r0, .inr (6, [.ref a0])), (a0, .inl (cI, 30, .inl f0)), (r1, .inr (6, [.ref a1])), (a1, .inl (cI, 30, .inl f1))] rfl rfl (by decide) (by decide) (fun _ => rfl) rfl gX7_capIn_X6_at (by decide +kernel) ⟨Nat.le_of_ble_eq_true rfl, Nat.le_of_ble_eq_true rfl⟩ 0 rfl rfl rfl rfl rfl hl.1 (Nat.le_of_ble_eq_true rfl) ⟨Nat.le_of_ble_eq_true rfl, Nat.le_of_ble_eq_true rfl⟩ dX7_capIn_38 (fun r5 u H locs hw38 hH => ?_)
        obtain rfl : r5 = rAt 30 f2 (inF f0 (nI y) k) := hw38
        have hH := (hH : fx_H zA zs.heap H locs D [(h, .inr (7, [.ref r0, .ref r1, .ref r2, .ref r3, .ref r4, .ref r5, .int (nI k)])), (r0, .inr (6, [.ref a0])), (a0, .inl (cI, 30, .inl f0)), (r1, .inr (6, [.ref a1])), (a1, .inl (cI, 30, .inl f1)), (r2, .inr (6, [.ref a2])), (a2, .inl (cI, 30, .inl f2))])
        refine lv_imul zx zy dX7_capIn_41 ?_
        refine lv_bipush (v := 100) zx zy dX7_capIn_42 (by decide) ?_
        refine lv_idiv zx zy dX7_capIn_44 (by decide) ?_
        refine lv_isub zx zy dX7_capIn_45 ?_
        refine lv_istore_n (lv' := [(3, .int (c - ((c * (rAt 30 f2 (inF f0 (nI y) k))) / 100))), (0, .ref h), (1, .int (nI y)), (2, .int (inF f0 (nI y) k)), (4, .int (nI v))]) zx zy dX7_capIn_46 rfl hl (by decide) rfl (fun ls hl => ?_)
        refine lv_iinc (v := nI (v + 1)) (lv' := [(4, .int (nI (v + 1))), (3, .int (c - ((c * (rAt 30 f2 (inF f0 (nI y) k))) / 100))), (0, .ref h), (1, .int (nI y)), (2, .int (inF f0 (nI y) k))]) zx zy dX7_capIn_47 hl (k := 4) rfl (nI_1 _) (by decide) rfl (fun ls hl => ?_)
        refine lv_goto (tgt := 25) zx zy dX7_capIn_50 (by decide) ?_
        exact ih25 (v + 1) (c - ((c * (rAt 30 f2 (inF f0 (nI y) k))) / 100)) (by first | assumption | omega) (by rw [← hc]; exact (capGo_s hlt).symm) _ _ _ (by omega) hH (lv_sub hl [2, 3, 4, 1, 0] rfl)
  exact L25 _ v0 (rAt 30 f1 (inF f0 (nI y) k)) (by first | assumption | omega) (by unfold capV; rw [ev0, nI_clamp (by omega)]) _ _ _ (Nat.lt_succ_self _) hH (lv_sub hl [3, 4, 2, 1, 0] rfl)
set_option maxHeartbeats 4000000 in
set_option maxRecDepth 100000 in
theorem k_X7_tell (l : Launch) (D : va_G) (cI cZ : ClassId) (h : Nat) (r0 : Nat) (r1 : Nat) (r2 : Nat) (r3 : Nat) (r4 : Nat) (r5 : Nat) (k : Nat) (a0 : Nat) (a1 : Nat) (a2 : Nat) (a3 : Nat) (a4 : Nat) (a5 : Nat) (f0 : Nat → Int32) (f1 : Nat → Int32) (f2 : Nat → Int32) (f3 : Nat → Int32) (f4 : Nat → Int32) (f5 : Nat → Int32) (y : Int32) (w : Int32) (s : Int32) (hk : k ≤ 30) : fx_CI l D cI cZ yX7_tell wsX7_tell ({ frames := 1, cells := 0, slots := 0, locals := 22 }) [.ref h, .int y, .int w, .int s] [(h, .inr (7, [.ref r0, .ref r1, .ref r2, .ref r3, .ref r4, .ref r5, .int (nI k)])), (r0, .inr (6, [.ref a0])), (a0, .inl (cI, 30, .inl f0)), (r1, .inr (6, [.ref a1])), (a1, .inl (cI, 30, .inl f1)), (r2, .inr (6, [.ref a2])), (a2, .inl (cI, 30, .inl f2)), (r3, .inr (6, [.ref a3])), (a3, .inl (cI, 30, .inl f3)), (r4, .inr (6, [.ref a4])), (a4, .inl (cI, 30, .inl f4)), (r5, .inr (6, [.ref a5])), (a5, .inl (cI, 30, .inl f5))] (fun (u : (Nat) × (Nat → Int32) × (Nat → Int32) × (Nat → Int32) × (Nat → Int32) × (Nat → Int32) × (Nat → Int32)) => [(h, .inr (7, [.ref r0, .ref r1, .ref r2, .ref r3, .ref r4, .ref r5, .int (nI u.1)])), (r0, .inr (6, [.ref a0])), (a0, .inl (cI, 30, .inl u.2.1)), (r1, .inr (6, [.ref a1])), (a1, .inl (cI, 30, .inl u.2.2.1)), (r2, .inr (6, [.ref a2])), (a2, .inl (cI, 30, .inl u.2.2.2.1)), (r3, .inr (6, [.ref a3])), (a3, .inl (cI, 30, .inl u.2.2.2.2.1)), (r4, .inr (6, [.ref a4])), (a4, .inl (cI, 30, .inl u.2.2.2.2.2.1)), (r5, .inr (6, [.ref a5])), (a5, .inl (cI, 30, .inl u.2.2.2.2.2.2))]) (fun (r : Int32) (u : (Nat) × (Nat → Int32) × (Nat → Int32) × (Nat → Int32) × (Nat → Int32) × (Nat → Int32) × (Nat → Int32)) => ((tlOk k w s) ∧ r = 1 ∧ u.1 = k + 1 ∧ u.2.1 = upd f0 k y ∧ u.2.2.1 = upd f1 k (w / 1000) ∧ u.2.2.2.1 = upd f2 k (w - w / 1000 * 1000) ∧ u.2.2.2.2.1 = upd f3 k (s / 100000) ∧ u.2.2.2.2.2.1 = upd f4 k (s / 100 - s / 100 / 1000 * 1000) ∧ u.2.2.2.2.2.2 = upd f5 k (s - s / 100 * 100)) ∨ ((¬ tlOk k w s) ∧ r = 0 ∧ u.1 = k ∧ u.2.1 = f0 ∧ u.2.2.1 = f1 ∧ u.2.2.2.1 = f2 ∧ u.2.2.2.2.1 = f3 ∧ u.2.2.2.2.2.1 = f4 ∧ u.2.2.2.2.2.2 = f5)) := by
  refine fx_CI.of (ws' := (wsX7_tell).tail) cX7_tell 7 (by decide) rfl (Nat.le_of_ble_eq_true rfl) ?_
  intro zp ze zs zm za zb zt zc zA ls zQ hQ hC hr hlk hA hH hl
  have zx := hC.1.1
  have zy := hC.1.2.1
  have hl : lv_has ls 7 [(0, .ref h), (1, .int y), (2, .int w), (3, .int s)] := hl
  refine lv_iload_n zx zy dX7_tell_0 rfl (lv_at hl 2 rfl) ?_
  refine lv_sipush (v := 1000) zx zy dX7_tell_1 (by decide) ?_
  refine lv_idiv zx zy dX7_tell_4 (by decide) ?_
  refine lv_istore (lv' := [(4, .int (w / 1000)), (0, .ref h), (1, .int y), (2, .int w), (3, .int s)]) zx zy dX7_tell_5 hl (by decide) rfl (fun ls hl => ?_)
  refine lv_iload_n zx zy dX7_tell_7 rfl (lv_at hl 3 rfl) ?_
  refine lv_sipush (v := 1000) zx zy dX7_tell_8 (by decide) ?_
  refine lv_irem zx zy dX7_tell_11 (by decide) ?_
  refine lv_istore (lv' := [(5, .int (w - w / 1000 * 1000)), (4, .int (w / 1000)), (0, .ref h), (1, .int y), (2, .int w), (3, .int s)]) zx zy dX7_tell_12 hl (by decide) rfl (fun ls hl => ?_)
  refine lv_iload_n zx zy dX7_tell_14 rfl (lv_at hl 5 rfl) ?_
  refine lv_ldc (own := RX7) (v := 100000) zx zy hC.1.2.2.2.1 (hC.1.2.2.2.2 _ (by decide +kernel)) dX7_tell_15 ?_
  refine lv_idiv zx zy dX7_tell_17 (by decide) ?_
  refine lv_istore (lv' := [(6, .int (s / 100000)), (5, .int (w - w / 1000 * 1000)), (4, .int (w / 1000)), (0, .ref h), (1, .int y), (2, .int w), (3, .int s)]) zx zy dX7_tell_18 hl (by decide) rfl (fun ls hl => ?_)
  refine lv_aload_n zx zy dX7_tell_20 rfl (lv_at hl 3 rfl) ?_
  refine fx_get (C := RX7) (T := TX7) (N := 7) hC (fun _ h => List.mem_cons_of_mem _ (List.mem_append_left _ (List.mem_append_right _ h))) hH 0 rfl rfl 6 (by decide) (by decide +kernel) rfl dX7_tell_21 ?_
  refine lv_bipush (v := 30) zx zy dX7_tell_24 (by decide) ?_
  refine lv_icmp_ge (tgt := 51) zx zy dX7_tell_26 (by decide) (fun c26 => ?_) (fun c26 => ?_)
  · skip
    refine lv_iconst (v := 0) zx zy dX7_tell_51 (by decide) ?_
    exact fx_iret (v := 0) hQ hC hr hlk hH dX7_tell_52 rfl (Nat.le_of_ble_eq_true rfl) (Nat.le_of_ble_eq_true rfl) ((k, f0, f1, f2, f3, f4, f5)) rfl (Or.inr ⟨fun q => by first | exact c34 |> q.2.1 | exact q.2.2.1 c41 | exact c48 q.2.2.2 | exact absurd q.1 (Nat.not_lt.mpr (fx_le_of (a := 30) c26 (by omega) (by omega))), rfl, rfl, rfl, rfl, rfl, rfl, rfl, rfl⟩)
  · skip
    have hlt : k < 30 := fx_lt_of (b := 30) c26 (by omega)
    refine lv_iload zx zy dX7_tell_29 (lv_at hl 2 rfl) ?_
    refine lv_sipush (v := 400) zx zy dX7_tell_31 (by decide) ?_
    refine lv_icmp_gt (tgt := 51) zx zy dX7_tell_34 (by decide) (fun c34 => ?_) (fun c34 => ?_)
    · skip
      refine lv_iconst (v := 0) zx zy dX7_tell_51 (by decide) ?_
      exact fx_iret (v := 0) hQ hC hr hlk hH dX7_tell_52 rfl (Nat.le_of_ble_eq_true rfl) (Nat.le_of_ble_eq_true rfl) ((k, f0, f1, f2, f3, f4, f5)) rfl (Or.inr ⟨fun q => by first | exact c34 |> q.2.1 | exact q.2.2.1 c41 | exact c48 q.2.2.2 | exact absurd q.1 (Nat.not_lt.mpr (fx_le_of (a := 30) c26 (by omega) (by omega))), rfl, rfl, rfl, rfl, rfl, rfl, rfl, rfl⟩)
    · skip
      refine lv_iload zx zy dX7_tell_37 (lv_at hl 1 rfl) ?_
      refine lv_bipush (v := 100) zx zy dX7_tell_39 (by decide) ?_
      refine lv_icmp_gt (tgt := 51) zx zy dX7_tell_41 (by decide) (fun c41 => ?_) (fun c41 => ?_)
      · skip
        refine lv_iconst (v := 0) zx zy dX7_tell_51 (by decide) ?_
        exact fx_iret (v := 0) hQ hC hr hlk hH dX7_tell_52 rfl (Nat.le_of_ble_eq_true rfl) (Nat.le_of_ble_eq_true rfl) ((k, f0, f1, f2, f3, f4, f5)) rfl (Or.inr ⟨fun q => by first | exact c34 |> q.2.1 | exact q.2.2.1 c41 | exact c48 q.2.2.2 | exact absurd q.1 (Nat.not_lt.mpr (fx_le_of (a := 30) c26 (by omega) (by omega))), rfl, rfl, rfl, rfl, rfl, rfl, rfl, rfl⟩)
      · skip
        refine lv_iload zx zy dX7_tell_44 (lv_at hl 0 rfl) ?_
        refine lv_bipush (v := 100) zx zy dX7_tell_46 (by decide) ?_
        refine lv_icmp_le (tgt := 53) zx zy dX7_tell_48 (by decide) (fun c48 => ?_) (fun c48 => ?_)
        · skip
          refine lv_aload_n zx zy dX7_tell_53 rfl (lv_at hl 3 rfl) ?_
          refine fx_get (C := RX7) (T := TX7) (N := 7) hC (fun _ h => List.mem_cons_of_mem _ (List.mem_append_left _ (List.mem_append_right _ h))) hH 0 rfl rfl 0 (by decide) (by decide +kernel) rfl dX7_tell_54 ?_
          refine lv_aload_n zx zy dX7_tell_57 rfl (lv_at hl 3 rfl) ?_
          refine fx_get (C := RX7) (T := TX7) (N := 7) hC (fun _ h => List.mem_cons_of_mem _ (List.mem_append_left _ (List.mem_append_right _ h))) hH 0 rfl rfl 6 (by decide) (by decide +kernel) rfl dX7_tell_58 ?_
          refine lv_iload_n zx zy dX7_tell_61 rfl (lv_at hl 4 rfl) ?_
          refine fx_cVv (n := 2) (As := [.int (nI k), .int y]) (b := r0) (rest := []) (fun (u : (Nat → Int32)) => [(h, .inr (7, [.ref r0, .ref r1, .ref r2, .ref r3, .ref r4, .ref r5, .int (nI k)])), (r0, .inr (6, [.ref a0])), (a0, .inl (cI, 30, .inl u)), (r1, .inr (6, [.ref a1])), (a1, .inl (cI, 30, .inl f1)), (r2, .inr (6, [.ref a2])), (a2, .inl (cI, 30, .inl f2)), (r3, .inr (6, [.ref a3])), (a3, .inl (cI, 30, .inl f3)), (r4, .inr (6, [.ref a4])), (a4, .inl (cI, 30, .inl f4)), (r5, .inr (6, [.ref a5])), (a5, .inl (cI, 30, .inl f5))]) hC hA hH (k_X6_put l D cI cZ r0 a0 30 f0 (nI k) y (by first | assumption | omega)) [1, 2] [0, 3, 4, 5, 6, 7, 8, 9, 10, 11, 12] [0, 11, 12, 1, 2, 3, 4, 5, 6, 7, 8, 9, 10] [(h, .inr (7, [.ref r0, .ref r1, .ref r2, .ref r3, .ref r4, .ref r5, .int (nI k)])), (r1, .inr (6, [.ref a1])), (a1, .inl (cI, 30, .inl f1)), (r2, .inr (6, [.ref a2])), (a2, .inl (cI, 30, .inl f2)), (r3, .inr (6, [.ref a3])), (a3, .inl (cI, 30, .inl f3)), (r4, .inr (6, [.ref a4])), (a4, .inl (cI, 30, .inl f4)), (r5, .inr (6, [.ref a5])), (a5, .inl (cI, 30, .inl f5))] rfl rfl (by decide) (by decide) (fun _ => rfl) rfl gX7_tell_X6_put (by decide +kernel) ⟨Nat.le_of_ble_eq_true rfl, Nat.le_of_ble_eq_true rfl⟩ 0 rfl rfl rfl rfl rfl hl.1 (Nat.le_of_ble_eq_true rfl) ⟨Nat.le_of_ble_eq_true rfl, Nat.le_of_ble_eq_true rfl⟩ dX7_tell_62 (fun u H locs hw62 hH => ?_)
          obtain ⟨u2, rfl⟩ : ∃ z, z = u := ⟨_, rfl⟩
          obtain rfl : u2 = rPut 30 f0 (nI k) y := hw62
          have hH := (hH : fx_H zA zs.heap H locs D [(h, .inr (7, [.ref r0, .ref r1, .ref r2, .ref r3, .ref r4, .ref r5, .int (nI k)])), (r0, .inr (6, [.ref a0])), (a0, .inl (cI, 30, .inl (rPut 30 f0 (nI k) y))), (r1, .inr (6, [.ref a1])), (a1, .inl (cI, 30, .inl f1)), (r2, .inr (6, [.ref a2])), (a2, .inl (cI, 30, .inl f2)), (r3, .inr (6, [.ref a3])), (a3, .inl (cI, 30, .inl f3)), (r4, .inr (6, [.ref a4])), (a4, .inl (cI, 30, .inl f4)), (r5, .inr (6, [.ref a5])), (a5, .inl (cI, 30, .inl f5))])
          rw [show (rPut 30 f0 (nI k) y : Nat → Int32) = upd f0 k y from rPut_nI hlt (by omega)] at hH
          refine lv_aload_n zx zy dX7_tell_65 rfl (lv_at hl 3 rfl) ?_
          refine fx_get (C := RX7) (T := TX7) (N := 7) hC (fun _ h => List.mem_cons_of_mem _ (List.mem_append_left _ (List.mem_append_right _ h))) hH 0 rfl rfl 1 (by decide) (by decide +kernel) rfl dX7_tell_66 ?_
          refine lv_aload_n zx zy dX7_tell_69 rfl (lv_at hl 3 rfl) ?_
          refine fx_get (C := RX7) (T := TX7) (N := 7) hC (fun _ h => List.mem_cons_of_mem _ (List.mem_append_left _ (List.mem_append_right _ h))) hH 0 rfl rfl 6 (by decide) (by decide +kernel) rfl dX7_tell_70 ?_
          refine lv_iload zx zy dX7_tell_73 (lv_at hl 2 rfl) ?_
          refine fx_cVv (n := 2) (As := [.int (nI k), .int (w / 1000)]) (b := r1) (rest := []) (fun (u : (Nat → Int32)) => [(h, .inr (7, [.ref r0, .ref r1, .ref r2, .ref r3, .ref r4, .ref r5, .int (nI k)])), (r0, .inr (6, [.ref a0])), (a0, .inl (cI, 30, .inl (upd f0 k y))), (r1, .inr (6, [.ref a1])), (a1, .inl (cI, 30, .inl u)), (r2, .inr (6, [.ref a2])), (a2, .inl (cI, 30, .inl f2)), (r3, .inr (6, [.ref a3])), (a3, .inl (cI, 30, .inl f3)), (r4, .inr (6, [.ref a4])), (a4, .inl (cI, 30, .inl f4)), (r5, .inr (6, [.ref a5])), (a5, .inl (cI, 30, .inl f5))]) hC hA hH (k_X6_put l D cI cZ r1 a1 30 f1 (nI k) (w / 1000) (by first | assumption | omega)) [3, 4] [0, 1, 2, 5, 6, 7, 8, 9, 10, 11, 12] [0, 1, 2, 11, 12, 3, 4, 5, 6, 7, 8, 9, 10] [(h, .inr (7, [.ref r0, .ref r1, .ref r2, .ref r3, .ref r4, .ref r5, .int (nI k)])), (r0, .inr (6, [.ref a0])), (a0, .inl (cI, 30, .inl (upd f0 k y))), (r2, .inr (6, [.ref a2])), (a2, .inl (cI, 30, .inl f2)), (r3, .inr (6, [.ref a3])), (a3, .inl (cI, 30, .inl f3)), (r4, .inr (6, [.ref a4])), (a4, .inl (cI, 30, .inl f4)), (r5, .inr (6, [.ref a5])), (a5, .inl (cI, 30, .inl f5))] rfl rfl (by decide) (by decide) (fun _ => rfl) rfl gX7_tell_X6_put (by decide +kernel) ⟨Nat.le_of_ble_eq_true rfl, Nat.le_of_ble_eq_true rfl⟩ 0 rfl rfl rfl rfl rfl hl.1 (Nat.le_of_ble_eq_true rfl) ⟨Nat.le_of_ble_eq_true rfl, Nat.le_of_ble_eq_true rfl⟩ dX7_tell_75 (fun u H locs hw75 hH => ?_)
          obtain ⟨u4, rfl⟩ : ∃ z, z = u := ⟨_, rfl⟩
          obtain rfl : u4 = rPut 30 f1 (nI k) (w / 1000) := hw75
          have hH := (hH : fx_H zA zs.heap H locs D [(h, .inr (7, [.ref r0, .ref r1, .ref r2, .ref r3, .ref r4, .ref r5, .int (nI k)])), (r0, .inr (6, [.ref a0])), (a0, .inl (cI, 30, .inl (upd f0 k y))), (r1, .inr (6, [.ref a1])), (a1, .inl (cI, 30, .inl (rPut 30 f1 (nI k) (w / 1000)))), (r2, .inr (6, [.ref a2])), (a2, .inl (cI, 30, .inl f2)), (r3, .inr (6, [.ref a3])), (a3, .inl (cI, 30, .inl f3)), (r4, .inr (6, [.ref a4])), (a4, .inl (cI, 30, .inl f4)), (r5, .inr (6, [.ref a5])), (a5, .inl (cI, 30, .inl f5))])
          rw [show (rPut 30 f1 (nI k) (w / 1000) : Nat → Int32) = upd f1 k (w / 1000) from rPut_nI hlt (by omega)] at hH
          refine lv_aload_n zx zy dX7_tell_78 rfl (lv_at hl 3 rfl) ?_
          refine fx_get (C := RX7) (T := TX7) (N := 7) hC (fun _ h => List.mem_cons_of_mem _ (List.mem_append_left _ (List.mem_append_right _ h))) hH 0 rfl rfl 2 (by decide) (by decide +kernel) rfl dX7_tell_79 ?_
          refine lv_aload_n zx zy dX7_tell_82 rfl (lv_at hl 3 rfl) ?_
          refine fx_get (C := RX7) (T := TX7) (N := 7) hC (fun _ h => List.mem_cons_of_mem _ (List.mem_append_left _ (List.mem_append_right _ h))) hH 0 rfl rfl 6 (by decide) (by decide +kernel) rfl dX7_tell_83 ?_
          refine lv_iload zx zy dX7_tell_86 (lv_at hl 1 rfl) ?_
          refine fx_cVv (n := 2) (As := [.int (nI k), .int (w - w / 1000 * 1000)]) (b := r2) (rest := []) (fun (u : (Nat → Int32)) => [(h, .inr (7, [.ref r0, .ref r1, .ref r2, .ref r3, .ref r4, .ref r5, .int (nI k)])), (r0, .inr (6, [.ref a0])), (a0, .inl (cI, 30, .inl (upd f0 k y))), (r1, .inr (6, [.ref a1])), (a1, .inl (cI, 30, .inl (upd f1 k (w / 1000)))), (r2, .inr (6, [.ref a2])), (a2, .inl (cI, 30, .inl u)), (r3, .inr (6, [.ref a3])), (a3, .inl (cI, 30, .inl f3)), (r4, .inr (6, [.ref a4])), (a4, .inl (cI, 30, .inl f4)), (r5, .inr (6, [.ref a5])), (a5, .inl (cI, 30, .inl f5))]) hC hA hH (k_X6_put l D cI cZ r2 a2 30 f2 (nI k) (w - w / 1000 * 1000) (by first | assumption | omega)) [5, 6] [0, 1, 2, 3, 4, 7, 8, 9, 10, 11, 12] [0, 1, 2, 3, 4, 11, 12, 5, 6, 7, 8, 9, 10] [(h, .inr (7, [.ref r0, .ref r1, .ref r2, .ref r3, .ref r4, .ref r5, .int (nI k)])), (r0, .inr (6, [.ref a0])), (a0, .inl (cI, 30, .inl (upd f0 k y))), (r1, .inr (6, [.ref a1])), (a1, .inl (cI, 30, .inl (upd f1 k (w / 1000)))), (r3, .inr (6, [.ref a3])), (a3, .inl (cI, 30, .inl f3)), (r4, .inr (6, [.ref a4])), (a4, .inl (cI, 30, .inl f4)), (r5, .inr (6, [.ref a5])), (a5, .inl (cI, 30, .inl f5))] rfl rfl (by decide) (by decide) (fun _ => rfl) rfl gX7_tell_X6_put (by decide +kernel) ⟨Nat.le_of_ble_eq_true rfl, Nat.le_of_ble_eq_true rfl⟩ 0 rfl rfl rfl rfl rfl hl.1 (Nat.le_of_ble_eq_true rfl) ⟨Nat.le_of_ble_eq_true rfl, Nat.le_of_ble_eq_true rfl⟩ dX7_tell_88 (fun u H locs hw88 hH => ?_)
          obtain ⟨u6, rfl⟩ : ∃ z, z = u := ⟨_, rfl⟩
          obtain rfl : u6 = rPut 30 f2 (nI k) (w - w / 1000 * 1000) := hw88
          have hH := (hH : fx_H zA zs.heap H locs D [(h, .inr (7, [.ref r0, .ref r1, .ref r2, .ref r3, .ref r4, .ref r5, .int (nI k)])), (r0, .inr (6, [.ref a0])), (a0, .inl (cI, 30, .inl (upd f0 k y))), (r1, .inr (6, [.ref a1])), (a1, .inl (cI, 30, .inl (upd f1 k (w / 1000)))), (r2, .inr (6, [.ref a2])), (a2, .inl (cI, 30, .inl (rPut 30 f2 (nI k) (w - w / 1000 * 1000)))), (r3, .inr (6, [.ref a3])), (a3, .inl (cI, 30, .inl f3)), (r4, .inr (6, [.ref a4])), (a4, .inl (cI, 30, .inl f4)), (r5, .inr (6, [.ref a5])), (a5, .inl (cI, 30, .inl f5))])
          rw [show (rPut 30 f2 (nI k) (w - w / 1000 * 1000) : Nat → Int32) = upd f2 k (w - w / 1000 * 1000) from rPut_nI hlt (by omega)] at hH
          refine lv_aload_n zx zy dX7_tell_91 rfl (lv_at hl 3 rfl) ?_
          refine fx_get (C := RX7) (T := TX7) (N := 7) hC (fun _ h => List.mem_cons_of_mem _ (List.mem_append_left _ (List.mem_append_right _ h))) hH 0 rfl rfl 3 (by decide) (by decide +kernel) rfl dX7_tell_92 ?_
          refine lv_aload_n zx zy dX7_tell_95 rfl (lv_at hl 3 rfl) ?_
          refine fx_get (C := RX7) (T := TX7) (N := 7) hC (fun _ h => List.mem_cons_of_mem _ (List.mem_append_left _ (List.mem_append_right _ h))) hH 0 rfl rfl 6 (by decide) (by decide +kernel) rfl dX7_tell_96 ?_
          refine lv_iload zx zy dX7_tell_99 (lv_at hl 0 rfl) ?_
          refine fx_cVv (n := 2) (As := [.int (nI k), .int (s / 100000)]) (b := r3) (rest := []) (fun (u : (Nat → Int32)) => [(h, .inr (7, [.ref r0, .ref r1, .ref r2, .ref r3, .ref r4, .ref r5, .int (nI k)])), (r0, .inr (6, [.ref a0])), (a0, .inl (cI, 30, .inl (upd f0 k y))), (r1, .inr (6, [.ref a1])), (a1, .inl (cI, 30, .inl (upd f1 k (w / 1000)))), (r2, .inr (6, [.ref a2])), (a2, .inl (cI, 30, .inl (upd f2 k (w - w / 1000 * 1000)))), (r3, .inr (6, [.ref a3])), (a3, .inl (cI, 30, .inl u)), (r4, .inr (6, [.ref a4])), (a4, .inl (cI, 30, .inl f4)), (r5, .inr (6, [.ref a5])), (a5, .inl (cI, 30, .inl f5))]) hC hA hH (k_X6_put l D cI cZ r3 a3 30 f3 (nI k) (s / 100000) (by first | assumption | omega)) [7, 8] [0, 1, 2, 3, 4, 5, 6, 9, 10, 11, 12] [0, 1, 2, 3, 4, 5, 6, 11, 12, 7, 8, 9, 10] [(h, .inr (7, [.ref r0, .ref r1, .ref r2, .ref r3, .ref r4, .ref r5, .int (nI k)])), (r0, .inr (6, [.ref a0])), (a0, .inl (cI, 30, .inl (upd f0 k y))), (r1, .inr (6, [.ref a1])), (a1, .inl (cI, 30, .inl (upd f1 k (w / 1000)))), (r2, .inr (6, [.ref a2])), (a2, .inl (cI, 30, .inl (upd f2 k (w - w / 1000 * 1000)))), (r4, .inr (6, [.ref a4])), (a4, .inl (cI, 30, .inl f4)), (r5, .inr (6, [.ref a5])), (a5, .inl (cI, 30, .inl f5))] rfl rfl (by decide) (by decide) (fun _ => rfl) rfl gX7_tell_X6_put (by decide +kernel) ⟨Nat.le_of_ble_eq_true rfl, Nat.le_of_ble_eq_true rfl⟩ 0 rfl rfl rfl rfl rfl hl.1 (Nat.le_of_ble_eq_true rfl) ⟨Nat.le_of_ble_eq_true rfl, Nat.le_of_ble_eq_true rfl⟩ dX7_tell_101 (fun u H locs hw101 hH => ?_)
          obtain ⟨u8, rfl⟩ : ∃ z, z = u := ⟨_, rfl⟩
          obtain rfl : u8 = rPut 30 f3 (nI k) (s / 100000) := hw101
          have hH := (hH : fx_H zA zs.heap H locs D [(h, .inr (7, [.ref r0, .ref r1, .ref r2, .ref r3, .ref r4, .ref r5, .int (nI k)])), (r0, .inr (6, [.ref a0])), (a0, .inl (cI, 30, .inl (upd f0 k y))), (r1, .inr (6, [.ref a1])), (a1, .inl (cI, 30, .inl (upd f1 k (w / 1000)))), (r2, .inr (6, [.ref a2])), (a2, .inl (cI, 30, .inl (upd f2 k (w - w / 1000 * 1000)))), (r3, .inr (6, [.ref a3])), (a3, .inl (cI, 30, .inl (rPut 30 f3 (nI k) (s / 100000)))), (r4, .inr (6, [.ref a4])), (a4, .inl (cI, 30, .inl f4)), (r5, .inr (6, [.ref a5])), (a5, .inl (cI, 30, .inl f5))])
          rw [show (rPut 30 f3 (nI k) (s / 100000) : Nat → Int32) = upd f3 k (s / 100000) from rPut_nI hlt (by omega)] at hH
          refine lv_aload_n zx zy dX7_tell_104 rfl (lv_at hl 3 rfl) ?_
          refine fx_get (C := RX7) (T := TX7) (N := 7) hC (fun _ h => List.mem_cons_of_mem _ (List.mem_append_left _ (List.mem_append_right _ h))) hH 0 rfl rfl 4 (by decide) (by decide +kernel) rfl dX7_tell_105 ?_
          refine lv_aload_n zx zy dX7_tell_108 rfl (lv_at hl 3 rfl) ?_
          refine fx_get (C := RX7) (T := TX7) (N := 7) hC (fun _ h => List.mem_cons_of_mem _ (List.mem_append_left _ (List.mem_append_right _ h))) hH 0 rfl rfl 6 (by decide) (by decide +kernel) rfl dX7_tell_109 ?_
          refine lv_iload_n zx zy dX7_tell_112 rfl (lv_at hl 6 rfl) ?_
          refine lv_bipush (v := 100) zx zy dX7_tell_113 (by decide) ?_
          refine lv_idiv zx zy dX7_tell_115 (by decide) ?_
          refine lv_sipush (v := 1000) zx zy dX7_tell_116 (by decide) ?_
          refine lv_irem zx zy dX7_tell_119 (by decide) ?_
          refine fx_cVv (n := 2) (As := [.int (nI k), .int ((s / 100) - (s / 100) / 1000 * 1000)]) (b := r4) (rest := []) (fun (u : (Nat → Int32)) => [(h, .inr (7, [.ref r0, .ref r1, .ref r2, .ref r3, .ref r4, .ref r5, .int (nI k)])), (r0, .inr (6, [.ref a0])), (a0, .inl (cI, 30, .inl (upd f0 k y))), (r1, .inr (6, [.ref a1])), (a1, .inl (cI, 30, .inl (upd f1 k (w / 1000)))), (r2, .inr (6, [.ref a2])), (a2, .inl (cI, 30, .inl (upd f2 k (w - w / 1000 * 1000)))), (r3, .inr (6, [.ref a3])), (a3, .inl (cI, 30, .inl (upd f3 k (s / 100000)))), (r4, .inr (6, [.ref a4])), (a4, .inl (cI, 30, .inl u)), (r5, .inr (6, [.ref a5])), (a5, .inl (cI, 30, .inl f5))]) hC hA hH (k_X6_put l D cI cZ r4 a4 30 f4 (nI k) ((s / 100) - (s / 100) / 1000 * 1000) (by first | assumption | omega)) [9, 10] [0, 1, 2, 3, 4, 5, 6, 7, 8, 11, 12] [0, 1, 2, 3, 4, 5, 6, 7, 8, 11, 12, 9, 10] [(h, .inr (7, [.ref r0, .ref r1, .ref r2, .ref r3, .ref r4, .ref r5, .int (nI k)])), (r0, .inr (6, [.ref a0])), (a0, .inl (cI, 30, .inl (upd f0 k y))), (r1, .inr (6, [.ref a1])), (a1, .inl (cI, 30, .inl (upd f1 k (w / 1000)))), (r2, .inr (6, [.ref a2])), (a2, .inl (cI, 30, .inl (upd f2 k (w - w / 1000 * 1000)))), (r3, .inr (6, [.ref a3])), (a3, .inl (cI, 30, .inl (upd f3 k (s / 100000)))), (r5, .inr (6, [.ref a5])), (a5, .inl (cI, 30, .inl f5))] rfl rfl (by decide) (by decide) (fun _ => rfl) rfl gX7_tell_X6_put (by decide +kernel) ⟨Nat.le_of_ble_eq_true rfl, Nat.le_of_ble_eq_true rfl⟩ 0 rfl rfl rfl rfl rfl hl.1 (Nat.le_of_ble_eq_true rfl) ⟨Nat.le_of_ble_eq_true rfl, Nat.le_of_ble_eq_true rfl⟩ dX7_tell_120 (fun u H locs hw120 hH => ?_)
          obtain ⟨u10, rfl⟩ : ∃ z, z = u := ⟨_, rfl⟩
          obtain rfl : u10 = rPut 30 f4 (nI k) ((s / 100) - (s / 100) / 1000 * 1000) := hw120
          have hH := (hH : fx_H zA zs.heap H locs D [(h, .inr (7, [.ref r0, .ref r1, .ref r2, .ref r3, .ref r4, .ref r5, .int (nI k)])), (r0, .inr (6, [.ref a0])), (a0, .inl (cI, 30, .inl (upd f0 k y))), (r1, .inr (6, [.ref a1])), (a1, .inl (cI, 30, .inl (upd f1 k (w / 1000)))), (r2, .inr (6, [.ref a2])), (a2, .inl (cI, 30, .inl (upd f2 k (w - w / 1000 * 1000)))), (r3, .inr (6, [.ref a3])), (a3, .inl (cI, 30, .inl (upd f3 k (s / 100000)))), (r4, .inr (6, [.ref a4])), (a4, .inl (cI, 30, .inl (rPut 30 f4 (nI k) ((s / 100) - (s / 100) / 1000 * 1000)))), (r5, .inr (6, [.ref a5])), (a5, .inl (cI, 30, .inl f5))])
          rw [show (rPut 30 f4 (nI k) ((s / 100) - (s / 100) / 1000 * 1000) : Nat → Int32) = upd f4 k (s / 100 - s / 100 / 1000 * 1000) from rPut_nI hlt (by omega)] at hH
          refine lv_aload_n zx zy dX7_tell_123 rfl (lv_at hl 3 rfl) ?_
          refine fx_get (C := RX7) (T := TX7) (N := 7) hC (fun _ h => List.mem_cons_of_mem _ (List.mem_append_left _ (List.mem_append_right _ h))) hH 0 rfl rfl 5 (by decide) (by decide +kernel) rfl dX7_tell_124 ?_
          refine lv_aload_n zx zy dX7_tell_127 rfl (lv_at hl 3 rfl) ?_
          refine fx_get (C := RX7) (T := TX7) (N := 7) hC (fun _ h => List.mem_cons_of_mem _ (List.mem_append_left _ (List.mem_append_right _ h))) hH 0 rfl rfl 6 (by decide) (by decide +kernel) rfl dX7_tell_128 ?_
          refine lv_iload_n zx zy dX7_tell_131 rfl (lv_at hl 6 rfl) ?_
          refine lv_bipush (v := 100) zx zy dX7_tell_132 (by decide) ?_
          refine lv_irem zx zy dX7_tell_134 (by decide) ?_
          refine fx_cVv (n := 2) (As := [.int (nI k), .int (s - s / 100 * 100)]) (b := r5) (rest := []) (fun (u : (Nat → Int32)) => [(h, .inr (7, [.ref r0, .ref r1, .ref r2, .ref r3, .ref r4, .ref r5, .int (nI k)])), (r0, .inr (6, [.ref a0])), (a0, .inl (cI, 30, .inl (upd f0 k y))), (r1, .inr (6, [.ref a1])), (a1, .inl (cI, 30, .inl (upd f1 k (w / 1000)))), (r2, .inr (6, [.ref a2])), (a2, .inl (cI, 30, .inl (upd f2 k (w - w / 1000 * 1000)))), (r3, .inr (6, [.ref a3])), (a3, .inl (cI, 30, .inl (upd f3 k (s / 100000)))), (r4, .inr (6, [.ref a4])), (a4, .inl (cI, 30, .inl (upd f4 k (s / 100 - s / 100 / 1000 * 1000)))), (r5, .inr (6, [.ref a5])), (a5, .inl (cI, 30, .inl u))]) hC hA hH (k_X6_put l D cI cZ r5 a5 30 f5 (nI k) (s - s / 100 * 100) (by first | assumption | omega)) [11, 12] [0, 1, 2, 3, 4, 5, 6, 7, 8, 9, 10] [0, 1, 2, 3, 4, 5, 6, 7, 8, 9, 10, 11, 12] [(h, .inr (7, [.ref r0, .ref r1, .ref r2, .ref r3, .ref r4, .ref r5, .int (nI k)])), (r0, .inr (6, [.ref a0])), (a0, .inl (cI, 30, .inl (upd f0 k y))), (r1, .inr (6, [.ref a1])), (a1, .inl (cI, 30, .inl (upd f1 k (w / 1000)))), (r2, .inr (6, [.ref a2])), (a2, .inl (cI, 30, .inl (upd f2 k (w - w / 1000 * 1000)))), (r3, .inr (6, [.ref a3])), (a3, .inl (cI, 30, .inl (upd f3 k (s / 100000)))), (r4, .inr (6, [.ref a4])), (a4, .inl (cI, 30, .inl (upd f4 k (s / 100 - s / 100 / 1000 * 1000))))] rfl rfl (by decide) (by decide) (fun _ => rfl) rfl gX7_tell_X6_put (by decide +kernel) ⟨Nat.le_of_ble_eq_true rfl, Nat.le_of_ble_eq_true rfl⟩ 0 rfl rfl rfl rfl rfl hl.1 (Nat.le_of_ble_eq_true rfl) ⟨Nat.le_of_ble_eq_true rfl, Nat.le_of_ble_eq_true rfl⟩ dX7_tell_135 (fun u H locs hw135 hH => ?_)
          obtain ⟨u12, rfl⟩ : ∃ z, z = u := ⟨_, rfl⟩
          obtain rfl : u12 = rPut 30 f5 (nI k) (s - s / 100 * 100) := hw135
          have hH := (hH : fx_H zA zs.heap H locs D [(h, .inr (7, [.ref r0, .ref r1, .ref r2, .ref r3, .ref r4, .ref r5, .int (nI k)])), (r0, .inr (6, [.ref a0])), (a0, .inl (cI, 30, .inl (upd f0 k y))), (r1, .inr (6, [.ref a1])), (a1, .inl (cI, 30, .inl (upd f1 k (w / 1000)))), (r2, .inr (6, [.ref a2])), (a2, .inl (cI, 30, .inl (upd f2 k (w - w / 1000 * 1000)))), (r3, .inr (6, [.ref a3])), (a3, .inl (cI, 30, .inl (upd f3 k (s / 100000)))), (r4, .inr (6, [.ref a4])), (a4, .inl (cI, 30, .inl (upd f4 k (s / 100 - s / 100 / 1000 * 1000)))), (r5, .inr (6, [.ref a5])), (a5, .inl (cI, 30, .inl (rPut 30 f5 (nI k) (s - s / 100 * 100))))])
          rw [show (rPut 30 f5 (nI k) (s - s / 100 * 100) : Nat → Int32) = upd f5 k (s - s / 100 * 100) from rPut_nI hlt (by omega)] at hH
          refine lv_aload_n zx zy dX7_tell_138 rfl (lv_at hl 3 rfl) ?_
          refine lv_dup zx zy dX7_tell_139 rfl ?_
          refine fx_get (C := RX7) (T := TX7) (N := 7) hC (fun _ h => List.mem_cons_of_mem _ (List.mem_append_left _ (List.mem_append_right _ h))) hH 0 rfl rfl 6 (by decide) (by decide +kernel) rfl dX7_tell_140 ?_
          refine lv_iconst (v := 1) zx zy dX7_tell_143 (by decide) ?_
          refine lv_iadd zx zy dX7_tell_144 ?_
          refine lv_topi (fun v13 ev13 => ?_)
          obtain rfl : v13 = nI (k + 1) := ev13.trans (nI_1 k)
          refine fx_put (C := RX7) (T := TX7) (N := 7) (ty := .int) (ws2 := [(h, .inr (7, [.ref r0, .ref r1, .ref r2, .ref r3, .ref r4, .ref r5, .int (nI (k + 1))])), (r0, .inr (6, [.ref a0])), (a0, .inl (cI, 30, .inl (upd f0 k y))), (r1, .inr (6, [.ref a1])), (a1, .inl (cI, 30, .inl (upd f1 k (w / 1000)))), (r2, .inr (6, [.ref a2])), (a2, .inl (cI, 30, .inl (upd f2 k (w - w / 1000 * 1000)))), (r3, .inr (6, [.ref a3])), (a3, .inl (cI, 30, .inl (upd f3 k (s / 100000)))), (r4, .inr (6, [.ref a4])), (a4, .inl (cI, 30, .inl (upd f4 k (s / 100 - s / 100 / 1000 * 1000)))), (r5, .inr (6, [.ref a5])), (a5, .inl (cI, 30, .inl (upd f5 k (s - s / 100 * 100))))]) hC (fun _ h => List.mem_cons_of_mem _ (List.mem_append_left _ (List.mem_append_right _ h))) tyX7_ok nmX7 hH 0 rfl rfl 6 (by decide) (by decide +kernel) rfl rfl rfl rfl (Nat.le_of_ble_eq_true rfl) rfl dX7_tell_145 (fun H locs hH => ?_)
          refine lv_iconst (v := 1) zx zy dX7_tell_148 (by decide) ?_
          exact fx_iret (v := 1) hQ hC hr hlk hH dX7_tell_149 rfl (Nat.le_of_ble_eq_true rfl) (Nat.le_of_ble_eq_true rfl) (((k + 1), upd f0 k y, upd f1 k (w / 1000), upd f2 k (w - w / 1000 * 1000), upd f3 k (s / 100000), upd f4 k (s / 100 - s / 100 / 1000 * 1000), upd f5 k (s - s / 100 * 100))) rfl (Or.inl ⟨⟨hlt, c34, c41, c48⟩, rfl, rfl, rfl, rfl, rfl, rfl, rfl, rfl⟩)
        · skip
          refine lv_iconst (v := 0) zx zy dX7_tell_51 (by decide) ?_
          exact fx_iret (v := 0) hQ hC hr hlk hH dX7_tell_52 rfl (Nat.le_of_ble_eq_true rfl) (Nat.le_of_ble_eq_true rfl) ((k, f0, f1, f2, f3, f4, f5)) rfl (Or.inr ⟨fun q => by first | exact c34 |> q.2.1 | exact q.2.2.1 c41 | exact c48 q.2.2.2 | exact absurd q.1 (Nat.not_lt.mpr (fx_le_of (a := 30) c26 (by omega) (by omega))), rfl, rfl, rfl, rfl, rfl, rfl, rfl, rfl⟩)
