abbrev cbB (f0 f2 : Nat → Int32) (i : Nat) (w c : Int32) : Prop := c < f2 i ∨ (f2 i = c ∧ ¬ f0 i ≤ w)
def ofP (f0 f2 : Nat → Int32) (w c : Int32) : Nat → Nat
  | 0 => 0
  | p + 1 => if cbB f0 f2 p w c then ofP f0 f2 w c p else p + 1
theorem ofP_le (f0 f2 : Nat → Int32) (w c : Int32) : ∀ k, ofP f0 f2 w c k ≤ k
  | 0 => Nat.le_refl _
  | k + 1 => by
    have := ofP_le f0 f2 w c k
    unfold ofP
    split <;> omega
theorem ofP_s {f0 f2 : Nat → Int32} {w c : Int32} {p : Nat} (hp : 0 < p) (h : cbB f0 f2 (p - 1) w c) : ofP f0 f2 w c p = ofP f0 f2 w c (p - 1) := by
  obtain ⟨q, rfl⟩ : ∃ q, p = q + 1 := ⟨p - 1, by omega⟩
  exact if_pos h
theorem ofP_e {f0 f2 : Nat → Int32} {w c : Int32} {p : Nat} (hp : 0 < p) (h : ¬ cbB f0 f2 (p - 1) w c) : ofP f0 f2 w c p = p := by
  obtain ⟨q, rfl⟩ : ∃ q, p = q + 1 := ⟨p - 1, by omega⟩
  exact if_neg h
def csL (f1 : Nat → Int32) (n : Int32) : Nat → Int32
  | 0 => n
  | i + 1 => csL f1 n i - (if f1 i < csL f1 n i then f1 i else csL f1 n i)
def csM (f1 : Nat → Int32) (n : Int32) (i : Nat) : Int32 := if f1 i < csL f1 n i then f1 i else csL f1 n i
def csS (f1 f2 : Nat → Int32) (n : Int32) : Nat → Int32
  | 0 => 0
  | i + 1 => csS f1 f2 n i + csM f1 n i * f2 i
def csP (f0 f1 : Nat → Int32) (n w : Int32) : Nat → Int32
  | 0 => 0
  | i + 1 => csP f0 f1 n w i + (if f0 i = w then csM f1 n i else 0)
def deG (f1 f2 : Nat → Int32) : Nat → Nat → Int32 → Int32 → Int32
  | 0, _, _, d => d
  | fu + 1, i, l, d => if l ≤ 0 then d else deG f1 f2 fu (i + 1) (l - f1 i) (f2 i)
theorem deG_s {f1 f2 : Nat → Int32} {k i : Nat} {l d : Int32} (hi : i < k) (h : ¬ l ≤ 0) : deG f1 f2 (k - i) i l d = deG f1 f2 (k - (i + 1)) (i + 1) (l - f1 i) (f2 i) := by
  obtain ⟨e, h2⟩ : ∃ e, k - i = e + 1 := ⟨k - i - 1, by omega⟩
  rw [h2, show k - (i + 1) = e by omega]
  exact if_neg h
theorem deG_e {f1 f2 : Nat → Int32} {k i : Nat} {l d : Int32} (h : l ≤ 0) : deG f1 f2 (k - i) i l d = d := by
  cases k - i with
  | zero => rfl
  | succ e => exact if_pos h
set_option maxHeartbeats 4000000 in
set_option maxRecDepth 100000 in
theorem k_X2_canBe (l : Launch) (D : va_G) (cI cZ : ClassId) (h : Nat) (r0 : Nat) (r1 : Nat) (r2 : Nat) (r3 : Nat) (k : Nat) (al : Int32) (n : Int32) : fx_CI l D cI cZ yX2_canBe wsX2_canBe ({ frames := 0, cells := 0, slots := 0, locals := 0 }) [.ref h, .int n] [(h, .inr (2, [.ref r0, .ref r1, .ref r2, .ref r3, .int (nI k), .int al]))] (fun (u : Unit) => [(h, .inr (2, [.ref r0, .ref r1, .ref r2, .ref r3, .int (nI k), .int al]))]) (fun (r : Int32) (u : Unit) => ((¬ n < 0 ∧ ¬ al < n) ∧ r = 1) ∨ ((n < 0 ∨ al < n) ∧ r = 0)) := by
  refine fx_CI.of (ws' := (wsX2_canBe).tail) cX2_canBe 2 (by decide) rfl (Nat.le_of_ble_eq_true rfl) ?_
  intro zp ze zs zm za zb zt zc zA ls zQ hQ hC hr hlk hA hH hl
  have zx := hC.1.1
  have zy := hC.1.2.1
  have hl : lv_has ls 2 [(0, .ref h), (1, .int n)] := hl
  refine lv_iload_n zx zy dX2_canBe_0 rfl (lv_at hl 1 rfl) ?_
  refine lv_if_lt (tgt := 16) zx zy dX2_canBe_1 (by decide) (fun c1 => ?_) (fun c1 => ?_)
  · skip
    refine lv_iconst (v := 0) zx zy dX2_canBe_16 (by decide) ?_
    exact fx_iret (v := 0) hQ hC hr hlk hH dX2_canBe_17 rfl (Nat.le_of_ble_eq_true rfl) (Nat.le_of_ble_eq_true rfl) (()) rfl (by first | exact Or.inl ⟨⟨c1, c9⟩, rfl⟩ | exact Or.inr ⟨Or.inl c1, rfl⟩ | exact Or.inr ⟨Or.inr c9, rfl⟩)
  · skip
    refine lv_iload_n zx zy dX2_canBe_4 rfl (lv_at hl 1 rfl) ?_
    refine lv_aload_n zx zy dX2_canBe_5 rfl (lv_at hl 0 rfl) ?_
    refine fx_get (C := RX2) (T := TX2) (N := 6) hC (fun _ h => List.mem_cons_of_mem _ (List.mem_append_right _ h)) hH 0 rfl rfl 5 (by decide) (by decide +kernel) rfl dX2_canBe_6 ?_
    refine lv_icmp_gt (tgt := 16) zx zy dX2_canBe_9 (by decide) (fun c9 => ?_) (fun c9 => ?_)
    · skip
      refine lv_iconst (v := 0) zx zy dX2_canBe_16 (by decide) ?_
      exact fx_iret (v := 0) hQ hC hr hlk hH dX2_canBe_17 rfl (Nat.le_of_ble_eq_true rfl) (Nat.le_of_ble_eq_true rfl) (()) rfl (by first | exact Or.inl ⟨⟨c1, c9⟩, rfl⟩ | exact Or.inr ⟨Or.inl c1, rfl⟩ | exact Or.inr ⟨Or.inr c9, rfl⟩)
    · skip
      refine lv_iconst (v := 1) zx zy dX2_canBe_12 (by decide) ?_
      refine lv_goto (tgt := 17) zx zy dX2_canBe_13 (by decide) ?_
      exact fx_iret (v := 1) hQ hC hr hlk hH dX2_canBe_17 rfl (Nat.le_of_ble_eq_true rfl) (Nat.le_of_ble_eq_true rfl) (()) rfl (by first | exact Or.inl ⟨⟨c1, c9⟩, rfl⟩ | exact Or.inr ⟨Or.inl c1, rfl⟩ | exact Or.inr ⟨Or.inr c9, rfl⟩)
set_option maxHeartbeats 4000000 in
set_option maxRecDepth 100000 in
theorem k_X2_comesBehind (l : Launch) (D : va_G) (cI cZ : ClassId) (h : Nat) (r0 : Nat) (r1 : Nat) (r2 : Nat) (r3 : Nat) (k : Nat) (al : Int32) (a0 : Nat) (a2 : Nat) (f0 : Nat → Int32) (f2 : Nat → Int32) (i : Nat) (w : Int32) (c : Int32) (hi : i < 40) : fx_CI l D cI cZ yX2_comesBehind wsX2_comesBehind ({ frames := 1, cells := 0, slots := 0, locals := 21 }) [.ref h, .int (nI i), .int w, .int c] [(h, .inr (2, [.ref r0, .ref r1, .ref r2, .ref r3, .int (nI k), .int al])), (r0, .inr (6, [.ref a0])), (a0, .inl (cI, 40, .inl f0)), (r2, .inr (6, [.ref a2])), (a2, .inl (cI, 40, .inl f2))] (fun (u : Unit) => [(h, .inr (2, [.ref r0, .ref r1, .ref r2, .ref r3, .int (nI k), .int al])), (r0, .inr (6, [.ref a0])), (a0, .inl (cI, 40, .inl f0)), (r2, .inr (6, [.ref a2])), (a2, .inl (cI, 40, .inl f2))]) (fun (r : Int32) (u : Unit) => ((cbB f0 f2 i w c) ∧ r = 1) ∨ ((¬ cbB f0 f2 i w c) ∧ r = 0)) := by
  refine fx_CI.of (ws' := (wsX2_comesBehind).tail) cX2_comesBehind 4 (by decide) rfl (Nat.le_of_ble_eq_true rfl) ?_
  intro zp ze zs zm za zb zt zc zA ls zQ hQ hC hr hlk hA hH hl
  have zx := hC.1.1
  have zy := hC.1.2.1
  have hl : lv_has ls 4 [(0, .ref h), (1, .int (nI i)), (2, .int w), (3, .int c)] := hl
  refine lv_aload_n zx zy dX2_comesBehind_0 rfl (lv_at hl 0 rfl) ?_
  refine fx_get (C := RX2) (T := TX2) (N := 6) hC (fun _ h => List.mem_cons_of_mem _ (List.mem_append_left _ (List.mem_append_right _ h))) hH 0 rfl rfl 2 (by decide) (by decide +kernel) rfl dX2_comesBehind_1 ?_
  refine lv_iload_n zx zy dX2_comesBehind_4 rfl (lv_at hl 1 rfl) ?_
  refine fx_cVi (n := 1) (As := [.int (nI i)]) (b := r2) (rest := []) (fun (u : Unit) => [(h, .inr (2, [.ref r0, .ref r1, .ref r2, .ref r3, .int (nI k), .int al])), (r0, .inr (6, [.ref a0])), (a0, .inl (cI, 40, .inl f0)), (r2, .inr (6, [.ref a2])), (a2, .inl (cI, 40, .inl f2))]) hC hA hH (k_X6_at l D cI cZ r2 a2 40 f2 (nI i) (by first | assumption | omega)) [3, 4] [0, 1, 2] [0, 1, 2, 3, 4] [(h, .inr (2, [.ref r0, .ref r1, .ref r2, .ref r3, .int (nI k), .int al])), (r0, .inr (6, [.ref a0])), (a0, .inl (cI, 40, .inl f0))] rfl rfl (by decide) (by decide) (fun _ => rfl) rfl gX2_comesBehind_X6_at (by decide +kernel) ⟨Nat.le_of_ble_eq_true rfl, Nat.le_of_ble_eq_true rfl⟩ 0 rfl rfl rfl rfl rfl hl.1 (Nat.le_of_ble_eq_true rfl) ⟨Nat.le_of_ble_eq_true rfl, Nat.le_of_ble_eq_true rfl⟩ dX2_comesBehind_5 (fun r1 u H locs hw5 hH => ?_)
  obtain rfl : r1 = rAt 40 f2 (nI i) := hw5
  have hH := (hH : fx_H zA zs.heap H locs D [(h, .inr (2, [.ref r0, .ref r1, .ref r2, .ref r3, .int (nI k), .int al])), (r0, .inr (6, [.ref a0])), (a0, .inl (cI, 40, .inl f0)), (r2, .inr (6, [.ref a2])), (a2, .inl (cI, 40, .inl f2))])
  refine lv_topi (fun v2 ev2 => ?_)
  obtain rfl : v2 = f2 i := ev2.trans (rAt_nI hi (by omega))
  refine lv_iload_n zx zy dX2_comesBehind_8 rfl (lv_at hl 3 rfl) ?_
  refine lv_icmp_gt (tgt := 36) zx zy dX2_comesBehind_9 (by decide) (fun c9 => ?_) (fun c9 => ?_)
  · skip
    refine lv_iconst (v := 1) zx zy dX2_comesBehind_36 (by decide) ?_
    refine lv_goto (tgt := 41) zx zy dX2_comesBehind_37 (by decide) ?_
    exact fx_iret (v := 1) hQ hC hr hlk hH dX2_comesBehind_41 rfl (Nat.le_of_ble_eq_true rfl) (Nat.le_of_ble_eq_true rfl) (()) rfl (by first | exact Or.inl ⟨Or.inl c9, rfl⟩ | exact Or.inl ⟨Or.inr ⟨c21, c33⟩, rfl⟩ | exact Or.inr ⟨fun q => q.elim c9 (fun z => c21 z.1), rfl⟩ | exact Or.inr ⟨fun q => q.elim c9 (fun z => z.2 c33), rfl⟩)
  · skip
    refine lv_aload_n zx zy dX2_comesBehind_12 rfl (lv_at hl 0 rfl) ?_
    refine fx_get (C := RX2) (T := TX2) (N := 6) hC (fun _ h => List.mem_cons_of_mem _ (List.mem_append_left _ (List.mem_append_right _ h))) hH 0 rfl rfl 2 (by decide) (by decide +kernel) rfl dX2_comesBehind_13 ?_
    refine lv_iload_n zx zy dX2_comesBehind_16 rfl (lv_at hl 1 rfl) ?_
    refine fx_cVi (n := 1) (As := [.int (nI i)]) (b := r2) (rest := []) (fun (u : Unit) => [(h, .inr (2, [.ref r0, .ref r1, .ref r2, .ref r3, .int (nI k), .int al])), (r0, .inr (6, [.ref a0])), (a0, .inl (cI, 40, .inl f0)), (r2, .inr (6, [.ref a2])), (a2, .inl (cI, 40, .inl f2))]) hC hA hH (k_X6_at l D cI cZ r2 a2 40 f2 (nI i) (by first | assumption | omega)) [3, 4] [0, 1, 2] [0, 1, 2, 3, 4] [(h, .inr (2, [.ref r0, .ref r1, .ref r2, .ref r3, .int (nI k), .int al])), (r0, .inr (6, [.ref a0])), (a0, .inl (cI, 40, .inl f0))] rfl rfl (by decide) (by decide) (fun _ => rfl) rfl gX2_comesBehind_X6_at (by decide +kernel) ⟨Nat.le_of_ble_eq_true rfl, Nat.le_of_ble_eq_true rfl⟩ 0 rfl rfl rfl rfl rfl hl.1 (Nat.le_of_ble_eq_true rfl) ⟨Nat.le_of_ble_eq_true rfl, Nat.le_of_ble_eq_true rfl⟩ dX2_comesBehind_17 (fun r3 u H locs hw17 hH => ?_)
    obtain rfl : r3 = rAt 40 f2 (nI i) := hw17
    have hH := (hH : fx_H zA zs.heap H locs D [(h, .inr (2, [.ref r0, .ref r1, .ref r2, .ref r3, .int (nI k), .int al])), (r0, .inr (6, [.ref a0])), (a0, .inl (cI, 40, .inl f0)), (r2, .inr (6, [.ref a2])), (a2, .inl (cI, 40, .inl f2))])
    refine lv_topi (fun v4 ev4 => ?_)
    obtain rfl : v4 = f2 i := ev4.trans (rAt_nI hi (by omega))
    refine lv_iload_n zx zy dX2_comesBehind_20 rfl (lv_at hl 3 rfl) ?_
    refine lv_icmp_ne (tgt := 40) zx zy dX2_comesBehind_21 (by decide) (fun c21 => ?_) (fun c21 => ?_)
    · skip
      refine lv_iconst (v := 0) zx zy dX2_comesBehind_40 (by decide) ?_
      exact fx_iret (v := 0) hQ hC hr hlk hH dX2_comesBehind_41 rfl (Nat.le_of_ble_eq_true rfl) (Nat.le_of_ble_eq_true rfl) (()) rfl (by first | exact Or.inl ⟨Or.inl c9, rfl⟩ | exact Or.inl ⟨Or.inr ⟨c21, c33⟩, rfl⟩ | exact Or.inr ⟨fun q => q.elim c9 (fun z => c21 z.1), rfl⟩ | exact Or.inr ⟨fun q => q.elim c9 (fun z => z.2 c33), rfl⟩)
    · skip
      refine lv_aload_n zx zy dX2_comesBehind_24 rfl (lv_at hl 0 rfl) ?_
      refine fx_get (C := RX2) (T := TX2) (N := 6) hC (fun _ h => List.mem_cons_of_mem _ (List.mem_append_left _ (List.mem_append_right _ h))) hH 0 rfl rfl 0 (by decide) (by decide +kernel) rfl dX2_comesBehind_25 ?_
      refine lv_iload_n zx zy dX2_comesBehind_28 rfl (lv_at hl 1 rfl) ?_
      refine fx_cVi (n := 1) (As := [.int (nI i)]) (b := r0) (rest := []) (fun (u : Unit) => [(h, .inr (2, [.ref r0, .ref r1, .ref r2, .ref r3, .int (nI k), .int al])), (r0, .inr (6, [.ref a0])), (a0, .inl (cI, 40, .inl f0)), (r2, .inr (6, [.ref a2])), (a2, .inl (cI, 40, .inl f2))]) hC hA hH (k_X6_at l D cI cZ r0 a0 40 f0 (nI i) (by first | assumption | omega)) [1, 2] [0, 3, 4] [0, 3, 4, 1, 2] [(h, .inr (2, [.ref r0, .ref r1, .ref r2, .ref r3, .int (nI k), .int al])), (r2, .inr (6, [.ref a2])), (a2, .inl (cI, 40, .inl f2))] rfl rfl (by decide) (by decide) (fun _ => rfl) rfl gX2_comesBehind_X6_at (by decide +kernel) ⟨Nat.le_of_ble_eq_true rfl, Nat.le_of_ble_eq_true rfl⟩ 0 rfl rfl rfl rfl rfl hl.1 (Nat.le_of_ble_eq_true rfl) ⟨Nat.le_of_ble_eq_true rfl, Nat.le_of_ble_eq_true rfl⟩ dX2_comesBehind_29 (fun r5 u H locs hw29 hH => ?_)
      obtain rfl : r5 = rAt 40 f0 (nI i) := hw29
      have hH := (hH : fx_H zA zs.heap H locs D [(h, .inr (2, [.ref r0, .ref r1, .ref r2, .ref r3, .int (nI k), .int al])), (r0, .inr (6, [.ref a0])), (a0, .inl (cI, 40, .inl f0)), (r2, .inr (6, [.ref a2])), (a2, .inl (cI, 40, .inl f2))])
      refine lv_topi (fun v6 ev6 => ?_)
      obtain rfl : v6 = f0 i := ev6.trans (rAt_nI hi (by omega))
      refine lv_iload_n zx zy dX2_comesBehind_32 rfl (lv_at hl 2 rfl) ?_
      refine lv_icmp_le (tgt := 40) zx zy dX2_comesBehind_33 (by decide) (fun c33 => ?_) (fun c33 => ?_)
      · skip
        refine lv_iconst (v := 0) zx zy dX2_comesBehind_40 (by decide) ?_
        exact fx_iret (v := 0) hQ hC hr hlk hH dX2_comesBehind_41 rfl (Nat.le_of_ble_eq_true rfl) (Nat.le_of_ble_eq_true rfl) (()) rfl (by first | exact Or.inl ⟨Or.inl c9, rfl⟩ | exact Or.inl ⟨Or.inr ⟨c21, c33⟩, rfl⟩ | exact Or.inr ⟨fun q => q.elim c9 (fun z => c21 z.1), rfl⟩ | exact Or.inr ⟨fun q => q.elim c9 (fun z => z.2 c33), rfl⟩)
      · skip
        refine lv_iconst (v := 1) zx zy dX2_comesBehind_36 (by decide) ?_
        refine lv_goto (tgt := 41) zx zy dX2_comesBehind_37 (by decide) ?_
        exact fx_iret (v := 1) hQ hC hr hlk hH dX2_comesBehind_41 rfl (Nat.le_of_ble_eq_true rfl) (Nat.le_of_ble_eq_true rfl) (()) rfl (by first | exact Or.inl ⟨Or.inl c9, rfl⟩ | exact Or.inl ⟨Or.inr ⟨c21, c33⟩, rfl⟩ | exact Or.inr ⟨fun q => q.elim c9 (fun z => c21 z.1), rfl⟩ | exact Or.inr ⟨fun q => q.elim c9 (fun z => z.2 c33), rfl⟩)
set_option maxHeartbeats 4000000 in
set_option maxRecDepth 100000 in
theorem k_X2_offer (l : Launch) (D : va_G) (cI cZ : ClassId) (h : Nat) (r0 : Nat) (r1 : Nat) (r2 : Nat) (r3 : Nat) (k : Nat) (al : Int32) (a0 : Nat) (a1 : Nat) (a2 : Nat) (a3 : Nat) (f0 : Nat → Int32) (f1 : Nat → Int32) (f2 : Nat → Int32) (f3 : Nat → Int32) (w : Nat) (t : Int32) (c : Int32) (hw : w < 10) (hk4 : k ≤ 40) (hk : f3 w < 4 → k < 40) : fx_CI l D cI cZ yX2_offer wsX2_offer ({ frames := 2, cells := 0, slots := 0, locals := 46 }) [.ref h, .int (nI w), .int t, .int c] [(h, .inr (2, [.ref r0, .ref r1, .ref r2, .ref r3, .int (nI k), .int al])), (r0, .inr (6, [.ref a0])), (a0, .inl (cI, 40, .inl f0)), (r1, .inr (6, [.ref a1])), (a1, .inl (cI, 40, .inl f1)), (r2, .inr (6, [.ref a2])), (a2, .inl (cI, 40, .inl f2)), (r3, .inr (6, [.ref a3])), (a3, .inl (cI, 10, .inl f3))] (fun (u : (Nat) × (Int32) × (Nat → Int32) × (Nat → Int32) × (Nat → Int32) × (Nat → Int32)) => [(h, .inr (2, [.ref r0, .ref r1, .ref r2, .ref r3, .int (nI u.1), .int u.2.1])), (r0, .inr (6, [.ref a0])), (a0, .inl (cI, 40, .inl u.2.2.1)), (r1, .inr (6, [.ref a1])), (a1, .inl (cI, 40, .inl u.2.2.2.1)), (r2, .inr (6, [.ref a2])), (a2, .inl (cI, 40, .inl u.2.2.2.2.1)), (r3, .inr (6, [.ref a3])), (a3, .inl (cI, 10, .inl u.2.2.2.2.2))]) (fun (r : Int32) (u : (Nat) × (Int32) × (Nat → Int32) × (Nat → Int32) × (Nat → Int32) × (Nat → Int32)) => ((f3 w < 4) ∧ r = f3 w + 1 ∧ u.1 = k + 1 ∧ u.2.1 = al + t ∧ u.2.2.1 = rSq f0 (ofP f0 f2 (nI w) c k) k (nI w) ∧ u.2.2.2.1 = rSq f1 (ofP f0 f2 (nI w) c k) k t ∧ u.2.2.2.2.1 = rSq f2 (ofP f0 f2 (nI w) c k) k c ∧ u.2.2.2.2.2 = upd f3 w (f3 w + 1)) ∨ ((¬ f3 w < 4) ∧ r = -1 ∧ u.1 = k ∧ u.2.1 = al ∧ u.2.2.1 = f0 ∧ u.2.2.2.1 = f1 ∧ u.2.2.2.2.1 = f2 ∧ u.2.2.2.2.2 = f3)) := by
  refine fx_CI.of (ws' := (wsX2_offer).tail) cX2_offer 5 (by decide) rfl (Nat.le_of_ble_eq_true rfl) ?_
  intro zp ze zs zm za zb zt zc zA ls zQ hQ hC hr hlk hA hH hl
  have zx := hC.1.1
  have zy := hC.1.2.1
  have hl : lv_has ls 5 [(0, .ref h), (1, .int (nI w)), (2, .int t), (3, .int c)] := hl
  refine lv_aload_n zx zy dX2_offer_0 rfl (lv_at hl 0 rfl) ?_
  refine fx_get (C := RX2) (T := TX2) (N := 6) hC (fun _ h => List.mem_cons_of_mem _ (List.mem_append_left _ (List.mem_append_right _ h))) hH 0 rfl rfl 3 (by decide) (by decide +kernel) rfl dX2_offer_1 ?_
  refine lv_iload_n zx zy dX2_offer_4 rfl (lv_at hl 1 rfl) ?_
  refine fx_cVi (n := 1) (As := [.int (nI w)]) (b := r3) (rest := []) (fun (u : Unit) => [(h, .inr (2, [.ref r0, .ref r1, .ref r2, .ref r3, .int (nI k), .int al])), (r0, .inr (6, [.ref a0])), (a0, .inl (cI, 40, .inl f0)), (r1, .inr (6, [.ref a1])), (a1, .inl (cI, 40, .inl f1)), (r2, .inr (6, [.ref a2])), (a2, .inl (cI, 40, .inl f2)), (r3, .inr (6, [.ref a3])), (a3, .inl (cI, 10, .inl f3))]) hC hA hH (k_X6_at l D cI cZ r3 a3 10 f3 (nI w) (by first | assumption | omega)) [7, 8] [0, 1, 2, 3, 4, 5, 6] [0, 1, 2, 3, 4, 5, 6, 7, 8] [(h, .inr (2, [.ref r0, .ref r1, .ref r2, .ref r3, .int (nI k), .int al])), (r0, .inr (6, [.ref a0])), (a0, .inl (cI, 40, .inl f0)), (r1, .inr (6, [.ref a1])), (a1, .inl (cI, 40, .inl f1)), (r2, .inr (6, [.ref a2])), (a2, .inl (cI, 40, .inl f2))] rfl rfl (by decide) (by decide) (fun _ => rfl) rfl gX2_offer_X6_at (by decide +kernel) ⟨Nat.le_of_ble_eq_true rfl, Nat.le_of_ble_eq_true rfl⟩ 0 rfl rfl rfl rfl rfl hl.1 (Nat.le_of_ble_eq_true rfl) ⟨Nat.le_of_ble_eq_true rfl, Nat.le_of_ble_eq_true rfl⟩ dX2_offer_5 (fun r1 u H locs hw5 hH => ?_)
  obtain rfl : r1 = rAt 10 f3 (nI w) := hw5
  have hH := (hH : fx_H zA zs.heap H locs D [(h, .inr (2, [.ref r0, .ref r1, .ref r2, .ref r3, .int (nI k), .int al])), (r0, .inr (6, [.ref a0])), (a0, .inl (cI, 40, .inl f0)), (r1, .inr (6, [.ref a1])), (a1, .inl (cI, 40, .inl f1)), (r2, .inr (6, [.ref a2])), (a2, .inl (cI, 40, .inl f2)), (r3, .inr (6, [.ref a3])), (a3, .inl (cI, 10, .inl f3))])
  refine lv_topi (fun v2 ev2 => ?_)
  obtain rfl : v2 = f3 w := ev2.trans (rAt_nI hw (by omega))
  refine lv_iconst (v := 4) zx zy dX2_offer_8 (by decide) ?_
  refine lv_icmp_lt (tgt := 14) zx zy dX2_offer_9 (by decide) (fun c9 => ?_) (fun c9 => ?_)
  · skip
    have hk40 := hk c9
    refine lv_aload_n zx zy dX2_offer_14 rfl (lv_at hl 0 rfl) ?_
    refine fx_get (C := RX2) (T := TX2) (N := 6) hC (fun _ h => List.mem_cons_of_mem _ (List.mem_append_left _ (List.mem_append_right _ h))) hH 0 rfl rfl 4 (by decide) (by decide +kernel) rfl dX2_offer_15 ?_
    refine lv_istore (lv' := [(4, .int (nI k)), (0, .ref h), (1, .int (nI w)), (2, .int t), (3, .int c)]) zx zy dX2_offer_18 hl (by decide) rfl (fun ls hl => ?_)
    have L20 : ∀ (fu : Nat) (p : Nat) (hp : p ≤ k) (he : ofP f0 f2 (nI w) c p = ofP f0 f2 (nI w) c k) (H : Heap) (locs : List Loc) (ls : Array Slot), p < fu → fx_H zA zs.heap H locs D [(h, .inr (2, [.ref r0, .ref r1, .ref r2, .ref r3, .int (nI k), .int al])), (r0, .inr (6, [.ref a0])), (a0, .inl (cI, 40, .inl f0)), (r1, .inr (6, [.ref a1])), (a1, .inl (cI, 40, .inl f1)), (r2, .inr (6, [.ref a2])), (a2, .inl (cI, 40, .inl f2)), (r3, .inr (6, [.ref a3])), (a3, .inl (cI, 10, .inl f3))] → lv_has ls 5 [(0, .ref h), (1, .int (nI w)), (2, .int t), (3, .int c), (4, .int (nI p))] → W zp l ze ({ frames := 2, cells := 0, slots := 0, locals := 46 }) zs zm za zb zt zc H locs (0) (0) zQ (F0 zm 20 ls []) := by
      intro fu
      induction fu with
      | zero => intro p hp he H locs ls hfu; exact absurd hfu (Nat.not_lt_zero _)
      | succ fu ih20 =>
        intro p hp he H locs ls hfu20 hH hl
        refine lv_iload zx zy dX2_offer_20 (lv_at hl 4 rfl) ?_
        refine lv_if_le (tgt := 44) zx zy dX2_offer_22 (by decide) (fun c22 => ?_) (fun c22 => ?_)
        · skip
          have hpe : p = ofP f0 f2 (nI w) c k := by rw [← he, fx_zero_of c22 (by omega)]; rfl
          refine lv_aload_n zx zy dX2_offer_44 rfl (lv_at hl 0 rfl) ?_
          refine fx_get (C := RX2) (T := TX2) (N := 6) hC (fun _ h => List.mem_cons_of_mem _ (List.mem_append_left _ (List.mem_append_right _ h))) hH 0 rfl rfl 0 (by decide) (by decide +kernel) rfl dX2_offer_45 ?_
          refine lv_iload zx zy dX2_offer_48 (lv_at hl 4 rfl) ?_
          refine lv_aload_n zx zy dX2_offer_50 rfl (lv_at hl 0 rfl) ?_
          refine fx_get (C := RX2) (T := TX2) (N := 6) hC (fun _ h => List.mem_cons_of_mem _ (List.mem_append_left _ (List.mem_append_right _ h))) hH 0 rfl rfl 4 (by decide) (by decide +kernel) rfl dX2_offer_51 ?_
          refine lv_iload_n zx zy dX2_offer_54 rfl (lv_at hl 1 rfl) ?_
          refine fx_cVv (n := 3) (As := [.int (nI p), .int (nI k), .int (nI w)]) (b := r0) (rest := []) (fun (u : (Nat → Int32)) => [(h, .inr (2, [.ref r0, .ref r1, .ref r2, .ref r3, .int (nI k), .int al])), (r0, .inr (6, [.ref a0])), (a0, .inl (cI, 40, .inl u)), (r1, .inr (6, [.ref a1])), (a1, .inl (cI, 40, .inl f1)), (r2, .inr (6, [.ref a2])), (a2, .inl (cI, 40, .inl f2)), (r3, .inr (6, [.ref a3])), (a3, .inl (cI, 10, .inl f3))]) hC hA hH (k_X6_squeeze l D cI cZ r0 a0 40 f0 p k (nI w) (by first | assumption | omega) (by first | assumption | omega) (by first | assumption | omega)) [1, 2] [0, 3, 4, 5, 6, 7, 8] [0, 7, 8, 1, 2, 3, 4, 5, 6] [(h, .inr (2, [.ref r0, .ref r1, .ref r2, .ref r3, .int (nI k), .int al])), (r1, .inr (6, [.ref a1])), (a1, .inl (cI, 40, .inl f1)), (r2, .inr (6, [.ref a2])), (a2, .inl (cI, 40, .inl f2)), (r3, .inr (6, [.ref a3])), (a3, .inl (cI, 10, .inl f3))] rfl rfl (by decide) (by decide) (fun _ => rfl) rfl gX2_offer_X6_squeeze (by decide +kernel) ⟨Nat.le_of_ble_eq_true rfl, Nat.le_of_ble_eq_true rfl⟩ 0 rfl rfl rfl rfl rfl hl.1 (Nat.le_of_ble_eq_true rfl) ⟨Nat.le_of_ble_eq_true rfl, Nat.le_of_ble_eq_true rfl⟩ dX2_offer_55 (fun u H locs hw55 hH => ?_)
          obtain ⟨u4, rfl⟩ : ∃ z, z = u := ⟨_, rfl⟩
          obtain rfl : u4 = rSq f0 p k (nI w) := hw55
          have hH := (hH : fx_H zA zs.heap H locs D [(h, .inr (2, [.ref r0, .ref r1, .ref r2, .ref r3, .int (nI k), .int al])), (r0, .inr (6, [.ref a0])), (a0, .inl (cI, 40, .inl (rSq f0 p k (nI w)))), (r1, .inr (6, [.ref a1])), (a1, .inl (cI, 40, .inl f1)), (r2, .inr (6, [.ref a2])), (a2, .inl (cI, 40, .inl f2)), (r3, .inr (6, [.ref a3])), (a3, .inl (cI, 10, .inl f3))])
          refine lv_aload_n zx zy dX2_offer_58 rfl (lv_at hl 0 rfl) ?_
          refine fx_get (C := RX2) (T := TX2) (N := 6) hC (fun _ h => List.mem_cons_of_mem _ (List.mem_append_left _ (List.mem_append_right _ h))) hH 0 rfl rfl 1 (by decide) (by decide +kernel) rfl dX2_offer_59 ?_
          refine lv_iload zx zy dX2_offer_62 (lv_at hl 4 rfl) ?_
          refine lv_aload_n zx zy dX2_offer_64 rfl (lv_at hl 0 rfl) ?_
          refine fx_get (C := RX2) (T := TX2) (N := 6) hC (fun _ h => List.mem_cons_of_mem _ (List.mem_append_left _ (List.mem_append_right _ h))) hH 0 rfl rfl 4 (by decide) (by decide +kernel) rfl dX2_offer_65 ?_
          refine lv_iload_n zx zy dX2_offer_68 rfl (lv_at hl 2 rfl) ?_
          refine fx_cVv (n := 3) (As := [.int (nI p), .int (nI k), .int t]) (b := r1) (rest := []) (fun (u : (Nat → Int32)) => [(h, .inr (2, [.ref r0, .ref r1, .ref r2, .ref r3, .int (nI k), .int al])), (r0, .inr (6, [.ref a0])), (a0, .inl (cI, 40, .inl (rSq f0 p k (nI w)))), (r1, .inr (6, [.ref a1])), (a1, .inl (cI, 40, .inl u)), (r2, .inr (6, [.ref a2])), (a2, .inl (cI, 40, .inl f2)), (r3, .inr (6, [.ref a3])), (a3, .inl (cI, 10, .inl f3))]) hC hA hH (k_X6_squeeze l D cI cZ r1 a1 40 f1 p k t (by first | assumption | omega) (by first | assumption | omega) (by first | assumption | omega)) [3, 4] [0, 1, 2, 5, 6, 7, 8] [0, 1, 2, 7, 8, 3, 4, 5, 6] [(h, .inr (2, [.ref r0, .ref r1, .ref r2, .ref r3, .int (nI k), .int al])), (r0, .inr (6, [.ref a0])), (a0, .inl (cI, 40, .inl (rSq f0 p k (nI w)))), (r2, .inr (6, [.ref a2])), (a2, .inl (cI, 40, .inl f2)), (r3, .inr (6, [.ref a3])), (a3, .inl (cI, 10, .inl f3))] rfl rfl (by decide) (by decide) (fun _ => rfl) rfl gX2_offer_X6_squeeze (by decide +kernel) ⟨Nat.le_of_ble_eq_true rfl, Nat.le_of_ble_eq_true rfl⟩ 0 rfl rfl rfl rfl rfl hl.1 (Nat.le_of_ble_eq_true rfl) ⟨Nat.le_of_ble_eq_true rfl, Nat.le_of_ble_eq_true rfl⟩ dX2_offer_69 (fun u H locs hw69 hH => ?_)
          obtain ⟨u6, rfl⟩ : ∃ z, z = u := ⟨_, rfl⟩
          obtain rfl : u6 = rSq f1 p k t := hw69
          have hH := (hH : fx_H zA zs.heap H locs D [(h, .inr (2, [.ref r0, .ref r1, .ref r2, .ref r3, .int (nI k), .int al])), (r0, .inr (6, [.ref a0])), (a0, .inl (cI, 40, .inl (rSq f0 p k (nI w)))), (r1, .inr (6, [.ref a1])), (a1, .inl (cI, 40, .inl (rSq f1 p k t))), (r2, .inr (6, [.ref a2])), (a2, .inl (cI, 40, .inl f2)), (r3, .inr (6, [.ref a3])), (a3, .inl (cI, 10, .inl f3))])
          refine lv_aload_n zx zy dX2_offer_72 rfl (lv_at hl 0 rfl) ?_
          refine fx_get (C := RX2) (T := TX2) (N := 6) hC (fun _ h => List.mem_cons_of_mem _ (List.mem_append_left _ (List.mem_append_right _ h))) hH 0 rfl rfl 2 (by decide) (by decide +kernel) rfl dX2_offer_73 ?_
          refine lv_iload zx zy dX2_offer_76 (lv_at hl 4 rfl) ?_
          refine lv_aload_n zx zy dX2_offer_78 rfl (lv_at hl 0 rfl) ?_
          refine fx_get (C := RX2) (T := TX2) (N := 6) hC (fun _ h => List.mem_cons_of_mem _ (List.mem_append_left _ (List.mem_append_right _ h))) hH 0 rfl rfl 4 (by decide) (by decide +kernel) rfl dX2_offer_79 ?_
          refine lv_iload_n zx zy dX2_offer_82 rfl (lv_at hl 3 rfl) ?_
          refine fx_cVv (n := 3) (As := [.int (nI p), .int (nI k), .int c]) (b := r2) (rest := []) (fun (u : (Nat → Int32)) => [(h, .inr (2, [.ref r0, .ref r1, .ref r2, .ref r3, .int (nI k), .int al])), (r0, .inr (6, [.ref a0])), (a0, .inl (cI, 40, .inl (rSq f0 p k (nI w)))), (r1, .inr (6, [.ref a1])), (a1, .inl (cI, 40, .inl (rSq f1 p k t))), (r2, .inr (6, [.ref a2])), (a2, .inl (cI, 40, .inl u)), (r3, .inr (6, [.ref a3])), (a3, .inl (cI, 10, .inl f3))]) hC hA hH (k_X6_squeeze l D cI cZ r2 a2 40 f2 p k c (by first | assumption | omega) (by first | assumption | omega) (by first | assumption | omega)) [5, 6] [0, 1, 2, 3, 4, 7, 8] [0, 1, 2, 3, 4, 7, 8, 5, 6] [(h, .inr (2, [.ref r0, .ref r1, .ref r2, .ref r3, .int (nI k), .int al])), (r0, .inr (6, [.ref a0])), (a0, .inl (cI, 40, .inl (rSq f0 p k (nI w)))), (r1, .inr (6, [.ref a1])), (a1, .inl (cI, 40, .inl (rSq f1 p k t))), (r3, .inr (6, [.ref a3])), (a3, .inl (cI, 10, .inl f3))] rfl rfl (by decide) (by decide) (fun _ => rfl) rfl gX2_offer_X6_squeeze (by decide +kernel) ⟨Nat.le_of_ble_eq_true rfl, Nat.le_of_ble_eq_true rfl⟩ 0 rfl rfl rfl rfl rfl hl.1 (Nat.le_of_ble_eq_true rfl) ⟨Nat.le_of_ble_eq_true rfl, Nat.le_of_ble_eq_true rfl⟩ dX2_offer_83 (fun u H locs hw83 hH => ?_)
          obtain ⟨u8, rfl⟩ : ∃ z, z = u := ⟨_, rfl⟩
          obtain rfl : u8 = rSq f2 p k c := hw83
          have hH := (hH : fx_H zA zs.heap H locs D [(h, .inr (2, [.ref r0, .ref r1, .ref r2, .ref r3, .int (nI k), .int al])), (r0, .inr (6, [.ref a0])), (a0, .inl (cI, 40, .inl (rSq f0 p k (nI w)))), (r1, .inr (6, [.ref a1])), (a1, .inl (cI, 40, .inl (rSq f1 p k t))), (r2, .inr (6, [.ref a2])), (a2, .inl (cI, 40, .inl (rSq f2 p k c))), (r3, .inr (6, [.ref a3])), (a3, .inl (cI, 10, .inl f3))])
          refine lv_aload_n zx zy dX2_offer_86 rfl (lv_at hl 0 rfl) ?_
          refine lv_dup zx zy dX2_offer_87 rfl ?_
          refine fx_get (C := RX2) (T := TX2) (N := 6) hC (fun _ h => List.mem_cons_of_mem _ (List.mem_append_left _ (List.mem_append_right _ h))) hH 0 rfl rfl 4 (by decide) (by decide +kernel) rfl dX2_offer_88 ?_
          refine lv_iconst (v := 1) zx zy dX2_offer_91 (by decide) ?_
          refine lv_iadd zx zy dX2_offer_92 ?_
          refine lv_topi (fun v9 ev9 => ?_)
          obtain rfl : v9 = nI (k + 1) := ev9.trans (nI_1 k)
          refine fx_put (C := RX2) (T := TX2) (N := 6) (ty := .int) (ws2 := [(h, .inr (2, [.ref r0, .ref r1, .ref r2, .ref r3, .int (nI (k + 1)), .int al])), (r0, .inr (6, [.ref a0])), (a0, .inl (cI, 40, .inl (rSq f0 p k (nI w)))), (r1, .inr (6, [.ref a1])), (a1, .inl (cI, 40, .inl (rSq f1 p k t))), (r2, .inr (6, [.ref a2])), (a2, .inl (cI, 40, .inl (rSq f2 p k c))), (r3, .inr (6, [.ref a3])), (a3, .inl (cI, 10, .inl f3))]) hC (fun _ h => List.mem_cons_of_mem _ (List.mem_append_left _ (List.mem_append_right _ h))) tyX2_ok nmX2 hH 0 rfl rfl 4 (by decide) (by decide +kernel) rfl rfl rfl rfl (Nat.le_of_ble_eq_true rfl) rfl dX2_offer_93 (fun H locs hH => ?_)
          refine lv_aload_n zx zy dX2_offer_96 rfl (lv_at hl 0 rfl) ?_
          refine lv_dup zx zy dX2_offer_97 rfl ?_
          refine fx_get (C := RX2) (T := TX2) (N := 6) hC (fun _ h => List.mem_cons_of_mem _ (List.mem_append_left _ (List.mem_append_right _ h))) hH 0 rfl rfl 5 (by decide) (by decide +kernel) rfl dX2_offer_98 ?_
          refine lv_iload_n zx zy dX2_offer_101 rfl (lv_at hl 2 rfl) ?_
          refine lv_iadd zx zy dX2_offer_102 ?_
          refine fx_put (C := RX2) (T := TX2) (N := 6) (ty := .int) (ws2 := [(h, .inr (2, [.ref r0, .ref r1, .ref r2, .ref r3, .int (nI (k + 1)), .int (al + t)])), (r0, .inr (6, [.ref a0])), (a0, .inl (cI, 40, .inl (rSq f0 p k (nI w)))), (r1, .inr (6, [.ref a1])), (a1, .inl (cI, 40, .inl (rSq f1 p k t))), (r2, .inr (6, [.ref a2])), (a2, .inl (cI, 40, .inl (rSq f2 p k c))), (r3, .inr (6, [.ref a3])), (a3, .inl (cI, 10, .inl f3))]) hC (fun _ h => List.mem_cons_of_mem _ (List.mem_append_left _ (List.mem_append_right _ h))) tyX2_ok nmX2 hH 0 rfl rfl 5 (by decide) (by decide +kernel) rfl rfl rfl rfl (Nat.le_of_ble_eq_true rfl) rfl dX2_offer_103 (fun H locs hH => ?_)
          refine lv_aload_n zx zy dX2_offer_106 rfl (lv_at hl 0 rfl) ?_
          refine fx_get (C := RX2) (T := TX2) (N := 6) hC (fun _ h => List.mem_cons_of_mem _ (List.mem_append_left _ (List.mem_append_right _ h))) hH 0 rfl rfl 3 (by decide) (by decide +kernel) rfl dX2_offer_107 ?_
          refine lv_iload_n zx zy dX2_offer_110 rfl (lv_at hl 1 rfl) ?_
          refine lv_iconst (v := 1) zx zy dX2_offer_111 (by decide) ?_
          refine fx_cVv (n := 2) (As := [.int (nI w), .int 1]) (b := r3) (rest := []) (fun (u : (Nat → Int32)) => [(h, .inr (2, [.ref r0, .ref r1, .ref r2, .ref r3, .int (nI (k + 1)), .int (al + t)])), (r0, .inr (6, [.ref a0])), (a0, .inl (cI, 40, .inl (rSq f0 p k (nI w)))), (r1, .inr (6, [.ref a1])), (a1, .inl (cI, 40, .inl (rSq f1 p k t))), (r2, .inr (6, [.ref a2])), (a2, .inl (cI, 40, .inl (rSq f2 p k c))), (r3, .inr (6, [.ref a3])), (a3, .inl (cI, 10, .inl u))]) hC hA hH (k_X6_add l D cI cZ r3 a3 10 f3 (nI w) 1 (by first | assumption | omega)) [7, 8] [0, 1, 2, 3, 4, 5, 6] [0, 1, 2, 3, 4, 5, 6, 7, 8] [(h, .inr (2, [.ref r0, .ref r1, .ref r2, .ref r3, .int (nI (k + 1)), .int (al + t)])), (r0, .inr (6, [.ref a0])), (a0, .inl (cI, 40, .inl (rSq f0 p k (nI w)))), (r1, .inr (6, [.ref a1])), (a1, .inl (cI, 40, .inl (rSq f1 p k t))), (r2, .inr (6, [.ref a2])), (a2, .inl (cI, 40, .inl (rSq f2 p k c)))] rfl rfl (by decide) (by decide) (fun _ => rfl) rfl gX2_offer_X6_add (by decide +kernel) ⟨Nat.le_of_ble_eq_true rfl, Nat.le_of_ble_eq_true rfl⟩ 0 rfl rfl rfl rfl rfl hl.1 (Nat.le_of_ble_eq_true rfl) ⟨Nat.le_of_ble_eq_true rfl, Nat.le_of_ble_eq_true rfl⟩ dX2_offer_112 (fun u H locs hw112 hH => ?_)
          obtain ⟨u11, rfl⟩ : ∃ z, z = u := ⟨_, rfl⟩
          obtain rfl : u11 = rPut 10 f3 (nI w) (rAt 10 f3 (nI w) + 1) := hw112
          have hH := (hH : fx_H zA zs.heap H locs D [(h, .inr (2, [.ref r0, .ref r1, .ref r2, .ref r3, .int (nI (k + 1)), .int (al + t)])), (r0, .inr (6, [.ref a0])), (a0, .inl (cI, 40, .inl (rSq f0 p k (nI w)))), (r1, .inr (6, [.ref a1])), (a1, .inl (cI, 40, .inl (rSq f1 p k t))), (r2, .inr (6, [.ref a2])), (a2, .inl (cI, 40, .inl (rSq f2 p k c))), (r3, .inr (6, [.ref a3])), (a3, .inl (cI, 10, .inl (rPut 10 f3 (nI w) (rAt 10 f3 (nI w) + 1))))])
          rw [show (rPut 10 f3 (nI w) (rAt 10 f3 (nI w) + 1) : Nat → Int32) = upd f3 w (f3 w + 1) from rAdd_nI hw (by omega)] at hH
          refine lv_aload_n zx zy dX2_offer_115 rfl (lv_at hl 0 rfl) ?_
          refine fx_get (C := RX2) (T := TX2) (N := 6) hC (fun _ h => List.mem_cons_of_mem _ (List.mem_append_left _ (List.mem_append_right _ h))) hH 0 rfl rfl 3 (by decide) (by decide +kernel) rfl dX2_offer_116 ?_
          refine lv_iload_n zx zy dX2_offer_119 rfl (lv_at hl 1 rfl) ?_
          refine fx_cVi (n := 1) (As := [.int (nI w)]) (b := r3) (rest := []) (fun (u : Unit) => [(h, .inr (2, [.ref r0, .ref r1, .ref r2, .ref r3, .int (nI (k + 1)), .int (al + t)])), (r0, .inr (6, [.ref a0])), (a0, .inl (cI, 40, .inl (rSq f0 p k (nI w)))), (r1, .inr (6, [.ref a1])), (a1, .inl (cI, 40, .inl (rSq f1 p k t))), (r2, .inr (6, [.ref a2])), (a2, .inl (cI, 40, .inl (rSq f2 p k c))), (r3, .inr (6, [.ref a3])), (a3, .inl (cI, 10, .inl (upd f3 w (f3 w + 1))))]) hC hA hH (k_X6_at l D cI cZ r3 a3 10 (upd f3 w (f3 w + 1)) (nI w) (by first | assumption | omega)) [7, 8] [0, 1, 2, 3, 4, 5, 6] [0, 1, 2, 3, 4, 5, 6, 7, 8] [(h, .inr (2, [.ref r0, .ref r1, .ref r2, .ref r3, .int (nI (k + 1)), .int (al + t)])), (r0, .inr (6, [.ref a0])), (a0, .inl (cI, 40, .inl (rSq f0 p k (nI w)))), (r1, .inr (6, [.ref a1])), (a1, .inl (cI, 40, .inl (rSq f1 p k t))), (r2, .inr (6, [.ref a2])), (a2, .inl (cI, 40, .inl (rSq f2 p k c)))] rfl rfl (by decide) (by decide) (fun _ => rfl) rfl gX2_offer_X6_at (by decide +kernel) ⟨Nat.le_of_ble_eq_true rfl, Nat.le_of_ble_eq_true rfl⟩ 0 rfl rfl rfl rfl rfl hl.1 (Nat.le_of_ble_eq_true rfl) ⟨Nat.le_of_ble_eq_true rfl, Nat.le_of_ble_eq_true rfl⟩ dX2_offer_120 (fun r12 u H locs hw120 hH => ?_)
          obtain rfl : r12 = rAt 10 (upd f3 w (f3 w + 1)) (nI w) := hw120
          have hH := (hH : fx_H zA zs.heap H locs D [(h, .inr (2, [.ref r0, .ref r1, .ref r2, .ref r3, .int (nI (k + 1)), .int (al + t)])), (r0, .inr (6, [.ref a0])), (a0, .inl (cI, 40, .inl (rSq f0 p k (nI w)))), (r1, .inr (6, [.ref a1])), (a1, .inl (cI, 40, .inl (rSq f1 p k t))), (r2, .inr (6, [.ref a2])), (a2, .inl (cI, 40, .inl (rSq f2 p k c))), (r3, .inr (6, [.ref a3])), (a3, .inl (cI, 10, .inl (upd f3 w (f3 w + 1))))])
          refine lv_topi (fun v13 ev13 => ?_)
          obtain rfl : v13 = f3 w + 1 := ev13.trans ((rAt_nI hw (by omega)).trans pk_us)
          exact fx_iret (v := f3 w + 1) hQ hC hr hlk hH dX2_offer_123 rfl (Nat.le_of_ble_eq_true rfl) (Nat.le_of_ble_eq_true rfl) (((k + 1), al + t, rSq f0 p k (nI w), rSq f1 p k t, rSq f2 p k c, upd f3 w (f3 w + 1))) rfl (Or.inl ⟨c9, by subst hpe; exact ⟨rfl, rfl, rfl, rfl, rfl, rfl, rfl⟩⟩)
        · skip
          have hp0 : 0 < p := fx_pos_of c22 (by omega)
          refine lv_aload_n zx zy dX2_offer_25 rfl (lv_at hl 0 rfl) ?_
          refine lv_iload zx zy dX2_offer_26 (lv_at hl 4 rfl) ?_
          refine lv_iconst (v := 1) zx zy dX2_offer_28 (by decide) ?_
          refine lv_isub zx zy dX2_offer_29 ?_
          refine lv_topi (fun v14 ev14 => ?_)
          obtain rfl : v14 = nI (p - 1) := ev14.trans (fx_m1 hp0)
          refine lv_iload_n zx zy dX2_offer_30 rfl (lv_at hl 1 rfl) ?_
          refine lv_iload_n zx zy dX2_offer_31 rfl (lv_at hl 3 rfl) ?_
          refine fx_cVi (n := 3) (As := [.int (nI (p - 1)), .int (nI w), .int c]) (b := h) (rest := []) (fun (u : Unit) => [(h, .inr (2, [.ref r0, .ref r1, .ref r2, .ref r3, .int (nI k), .int al])), (r0, .inr (6, [.ref a0])), (a0, .inl (cI, 40, .inl f0)), (r1, .inr (6, [.ref a1])), (a1, .inl (cI, 40, .inl f1)), (r2, .inr (6, [.ref a2])), (a2, .inl (cI, 40, .inl f2)), (r3, .inr (6, [.ref a3])), (a3, .inl (cI, 10, .inl f3))]) hC hA hH (k_X2_comesBehind l D cI cZ h r0 r1 r2 r3 k al a0 a2 f0 f2 (p - 1) (nI w) c (by first | assumption | omega)) [0, 1, 2, 5, 6] [3, 4, 7, 8] [4, 5, 6, 0, 1, 7, 8, 2, 3] [(r1, .inr (6, [.ref a1])), (a1, .inl (cI, 40, .inl f1)), (r3, .inr (6, [.ref a3])), (a3, .inl (cI, 10, .inl f3))] rfl rfl (by decide) (by decide) (fun _ => rfl) rfl gX2_offer_X2_comesBehind (by decide +kernel) ⟨Nat.le_of_ble_eq_true rfl, Nat.le_of_ble_eq_true rfl⟩ 0 rfl rfl rfl rfl rfl hl.1 (Nat.le_of_ble_eq_true rfl) ⟨Nat.le_of_ble_eq_true rfl, Nat.le_of_ble_eq_true rfl⟩ dX2_offer_32 (fun r15 u H locs hw32 hH => ?_)
          rcases hw32 with ⟨hg32, rfl⟩ | ⟨hg32, rfl⟩
          · skip
            have hH := (hH : fx_H zA zs.heap H locs D [(h, .inr (2, [.ref r0, .ref r1, .ref r2, .ref r3, .int (nI k), .int al])), (r0, .inr (6, [.ref a0])), (a0, .inl (cI, 40, .inl f0)), (r1, .inr (6, [.ref a1])), (a1, .inl (cI, 40, .inl f1)), (r2, .inr (6, [.ref a2])), (a2, .inl (cI, 40, .inl f2)), (r3, .inr (6, [.ref a3])), (a3, .inl (cI, 10, .inl f3))])
            refine lv_if_eq (tgt := 44) zx zy dX2_offer_35 (by decide) (fun c35 => ?_) (fun c35 => ?_)
            · exact absurd c35 (by decide)
            · skip
              refine lv_iinc (v := nI (p - 1)) (lv' := [(4, .int (nI (p - 1))), (0, .ref h), (1, .int (nI w)), (2, .int t), (3, .int c)]) zx zy dX2_offer_38 hl (k := 4) rfl (sb_m1 hp0) (by decide) rfl (fun ls hl => ?_)
              refine lv_goto (tgt := 20) zx zy dX2_offer_41 (by decide) ?_
              exact ih20 (p - 1) (by first | assumption | omega) ((ofP_s hp0 hg32).symm.trans he) _ _ _ (by omega) hH (lv_sub hl [1, 2, 3, 4, 0] rfl)
          · skip
            have hH := (hH : fx_H zA zs.heap H locs D [(h, .inr (2, [.ref r0, .ref r1, .ref r2, .ref r3, .int (nI k), .int al])), (r0, .inr (6, [.ref a0])), (a0, .inl (cI, 40, .inl f0)), (r1, .inr (6, [.ref a1])), (a1, .inl (cI, 40, .inl f1)), (r2, .inr (6, [.ref a2])), (a2, .inl (cI, 40, .inl f2)), (r3, .inr (6, [.ref a3])), (a3, .inl (cI, 10, .inl f3))])
            have hpe : p = ofP f0 f2 (nI w) c k := by rw [← he, ofP_e hp0 hg32]
            refine lv_if_eq (tgt := 44) zx zy dX2_offer_35 (by decide) (fun c35 => ?_) (fun c35 => ?_)
            · skip
              refine lv_aload_n zx zy dX2_offer_44 rfl (lv_at hl 0 rfl) ?_
              refine fx_get (C := RX2) (T := TX2) (N := 6) hC (fun _ h => List.mem_cons_of_mem _ (List.mem_append_left _ (List.mem_append_right _ h))) hH 0 rfl rfl 0 (by decide) (by decide +kernel) rfl dX2_offer_45 ?_
              refine lv_iload zx zy dX2_offer_48 (lv_at hl 4 rfl) ?_
              refine lv_aload_n zx zy dX2_offer_50 rfl (lv_at hl 0 rfl) ?_
              refine fx_get (C := RX2) (T := TX2) (N := 6) hC (fun _ h => List.mem_cons_of_mem _ (List.mem_append_left _ (List.mem_append_right _ h))) hH 0 rfl rfl 4 (by decide) (by decide +kernel) rfl dX2_offer_51 ?_
              refine lv_iload_n zx zy dX2_offer_54 rfl (lv_at hl 1 rfl) ?_
              refine fx_cVv (n := 3) (As := [.int (nI p), .int (nI k), .int (nI w)]) (b := r0) (rest := []) (fun (u : (Nat → Int32)) => [(h, .inr (2, [.ref r0, .ref r1, .ref r2, .ref r3, .int (nI k), .int al])), (r0, .inr (6, [.ref a0])), (a0, .inl (cI, 40, .inl u)), (r1, .inr (6, [.ref a1])), (a1, .inl (cI, 40, .inl f1)), (r2, .inr (6, [.ref a2])), (a2, .inl (cI, 40, .inl f2)), (r3, .inr (6, [.ref a3])), (a3, .inl (cI, 10, .inl f3))]) hC hA hH (k_X6_squeeze l D cI cZ r0 a0 40 f0 p k (nI w) (by first | assumption | omega) (by first | assumption | omega) (by first | assumption | omega)) [1, 2] [0, 3, 4, 5, 6, 7, 8] [0, 7, 8, 1, 2, 3, 4, 5, 6] [(h, .inr (2, [.ref r0, .ref r1, .ref r2, .ref r3, .int (nI k), .int al])), (r1, .inr (6, [.ref a1])), (a1, .inl (cI, 40, .inl f1)), (r2, .inr (6, [.ref a2])), (a2, .inl (cI, 40, .inl f2)), (r3, .inr (6, [.ref a3])), (a3, .inl (cI, 10, .inl f3))] rfl rfl (by decide) (by decide) (fun _ => rfl) rfl gX2_offer_X6_squeeze (by decide +kernel) ⟨Nat.le_of_ble_eq_true rfl, Nat.le_of_ble_eq_true rfl⟩ 0 rfl rfl rfl rfl rfl hl.1 (Nat.le_of_ble_eq_true rfl) ⟨Nat.le_of_ble_eq_true rfl, Nat.le_of_ble_eq_true rfl⟩ dX2_offer_55 (fun u H locs hw55 hH => ?_)
              obtain ⟨u17, rfl⟩ : ∃ z, z = u := ⟨_, rfl⟩
              obtain rfl : u17 = rSq f0 p k (nI w) := hw55
              have hH := (hH : fx_H zA zs.heap H locs D [(h, .inr (2, [.ref r0, .ref r1, .ref r2, .ref r3, .int (nI k), .int al])), (r0, .inr (6, [.ref a0])), (a0, .inl (cI, 40, .inl (rSq f0 p k (nI w)))), (r1, .inr (6, [.ref a1])), (a1, .inl (cI, 40, .inl f1)), (r2, .inr (6, [.ref a2])), (a2, .inl (cI, 40, .inl f2)), (r3, .inr (6, [.ref a3])), (a3, .inl (cI, 10, .inl f3))])
              refine lv_aload_n zx zy dX2_offer_58 rfl (lv_at hl 0 rfl) ?_
              refine fx_get (C := RX2) (T := TX2) (N := 6) hC (fun _ h => List.mem_cons_of_mem _ (List.mem_append_left _ (List.mem_append_right _ h))) hH 0 rfl rfl 1 (by decide) (by decide +kernel) rfl dX2_offer_59 ?_
              refine lv_iload zx zy dX2_offer_62 (lv_at hl 4 rfl) ?_
              refine lv_aload_n zx zy dX2_offer_64 rfl (lv_at hl 0 rfl) ?_
              refine fx_get (C := RX2) (T := TX2) (N := 6) hC (fun _ h => List.mem_cons_of_mem _ (List.mem_append_left _ (List.mem_append_right _ h))) hH 0 rfl rfl 4 (by decide) (by decide +kernel) rfl dX2_offer_65 ?_
              refine lv_iload_n zx zy dX2_offer_68 rfl (lv_at hl 2 rfl) ?_
              refine fx_cVv (n := 3) (As := [.int (nI p), .int (nI k), .int t]) (b := r1) (rest := []) (fun (u : (Nat → Int32)) => [(h, .inr (2, [.ref r0, .ref r1, .ref r2, .ref r3, .int (nI k), .int al])), (r0, .inr (6, [.ref a0])), (a0, .inl (cI, 40, .inl (rSq f0 p k (nI w)))), (r1, .inr (6, [.ref a1])), (a1, .inl (cI, 40, .inl u)), (r2, .inr (6, [.ref a2])), (a2, .inl (cI, 40, .inl f2)), (r3, .inr (6, [.ref a3])), (a3, .inl (cI, 10, .inl f3))]) hC hA hH (k_X6_squeeze l D cI cZ r1 a1 40 f1 p k t (by first | assumption | omega) (by first | assumption | omega) (by first | assumption | omega)) [3, 4] [0, 1, 2, 5, 6, 7, 8] [0, 1, 2, 7, 8, 3, 4, 5, 6] [(h, .inr (2, [.ref r0, .ref r1, .ref r2, .ref r3, .int (nI k), .int al])), (r0, .inr (6, [.ref a0])), (a0, .inl (cI, 40, .inl (rSq f0 p k (nI w)))), (r2, .inr (6, [.ref a2])), (a2, .inl (cI, 40, .inl f2)), (r3, .inr (6, [.ref a3])), (a3, .inl (cI, 10, .inl f3))] rfl rfl (by decide) (by decide) (fun _ => rfl) rfl gX2_offer_X6_squeeze (by decide +kernel) ⟨Nat.le_of_ble_eq_true rfl, Nat.le_of_ble_eq_true rfl⟩ 0 rfl rfl rfl rfl rfl hl.1 (Nat.le_of_ble_eq_true rfl) ⟨Nat.le_of_ble_eq_true rfl, Nat.le_of_ble_eq_true rfl⟩ dX2_offer_69 (fun u H locs hw69 hH => ?_)
              obtain ⟨u19, rfl⟩ : ∃ z, z = u := ⟨_, rfl⟩
              obtain rfl : u19 = rSq f1 p k t := hw69
              have hH := (hH : fx_H zA zs.heap H locs D [(h, .inr (2, [.ref r0, .ref r1, .ref r2, .ref r3, .int (nI k), .int al])), (r0, .inr (6, [.ref a0])), (a0, .inl (cI, 40, .inl (rSq f0 p k (nI w)))), (r1, .inr (6, [.ref a1])), (a1, .inl (cI, 40, .inl (rSq f1 p k t))), (r2, .inr (6, [.ref a2])), (a2, .inl (cI, 40, .inl f2)), (r3, .inr (6, [.ref a3])), (a3, .inl (cI, 10, .inl f3))])
              refine lv_aload_n zx zy dX2_offer_72 rfl (lv_at hl 0 rfl) ?_
              refine fx_get (C := RX2) (T := TX2) (N := 6) hC (fun _ h => List.mem_cons_of_mem _ (List.mem_append_left _ (List.mem_append_right _ h))) hH 0 rfl rfl 2 (by decide) (by decide +kernel) rfl dX2_offer_73 ?_
              refine lv_iload zx zy dX2_offer_76 (lv_at hl 4 rfl) ?_
              refine lv_aload_n zx zy dX2_offer_78 rfl (lv_at hl 0 rfl) ?_
              refine fx_get (C := RX2) (T := TX2) (N := 6) hC (fun _ h => List.mem_cons_of_mem _ (List.mem_append_left _ (List.mem_append_right _ h))) hH 0 rfl rfl 4 (by decide) (by decide +kernel) rfl dX2_offer_79 ?_
              refine lv_iload_n zx zy dX2_offer_82 rfl (lv_at hl 3 rfl) ?_
              refine fx_cVv (n := 3) (As := [.int (nI p), .int (nI k), .int c]) (b := r2) (rest := []) (fun (u : (Nat → Int32)) => [(h, .inr (2, [.ref r0, .ref r1, .ref r2, .ref r3, .int (nI k), .int al])), (r0, .inr (6, [.ref a0])), (a0, .inl (cI, 40, .inl (rSq f0 p k (nI w)))), (r1, .inr (6, [.ref a1])), (a1, .inl (cI, 40, .inl (rSq f1 p k t))), (r2, .inr (6, [.ref a2])), (a2, .inl (cI, 40, .inl u)), (r3, .inr (6, [.ref a3])), (a3, .inl (cI, 10, .inl f3))]) hC hA hH (k_X6_squeeze l D cI cZ r2 a2 40 f2 p k c (by first | assumption | omega) (by first | assumption | omega) (by first | assumption | omega)) [5, 6] [0, 1, 2, 3, 4, 7, 8] [0, 1, 2, 3, 4, 7, 8, 5, 6] [(h, .inr (2, [.ref r0, .ref r1, .ref r2, .ref r3, .int (nI k), .int al])), (r0, .inr (6, [.ref a0])), (a0, .inl (cI, 40, .inl (rSq f0 p k (nI w)))), (r1, .inr (6, [.ref a1])), (a1, .inl (cI, 40, .inl (rSq f1 p k t))), (r3, .inr (6, [.ref a3])), (a3, .inl (cI, 10, .inl f3))] rfl rfl (by decide) (by decide) (fun _ => rfl) rfl gX2_offer_X6_squeeze (by decide +kernel) ⟨Nat.le_of_ble_eq_true rfl, Nat.le_of_ble_eq_true rfl⟩ 0 rfl rfl rfl rfl rfl hl.1 (Nat.le_of_ble_eq_true rfl) ⟨Nat.le_of_ble_eq_true rfl, Nat.le_of_ble_eq_true rfl⟩ dX2_offer_83 (fun u H locs hw83 hH => ?_)
              obtain ⟨u21, rfl⟩ : ∃ z, z = u := ⟨_, rfl⟩
              obtain rfl : u21 = rSq f2 p k c := hw83
              have hH := (hH : fx_H zA zs.heap H locs D [(h, .inr (2, [.ref r0, .ref r1, .ref r2, .ref r3, .int (nI k), .int al])), (r0, .inr (6, [.ref a0])), (a0, .inl (cI, 40, .inl (rSq f0 p k (nI w)))), (r1, .inr (6, [.ref a1])), (a1, .inl (cI, 40, .inl (rSq f1 p k t))), (r2, .inr (6, [.ref a2])), (a2, .inl (cI, 40, .inl (rSq f2 p k c))), (r3, .inr (6, [.ref a3])), (a3, .inl (cI, 10, .inl f3))])
              refine lv_aload_n zx zy dX2_offer_86 rfl (lv_at hl 0 rfl) ?_
              refine lv_dup zx zy dX2_offer_87 rfl ?_
              refine fx_get (C := RX2) (T := TX2) (N := 6) hC (fun _ h => List.mem_cons_of_mem _ (List.mem_append_left _ (List.mem_append_right _ h))) hH 0 rfl rfl 4 (by decide) (by decide +kernel) rfl dX2_offer_88 ?_
              refine lv_iconst (v := 1) zx zy dX2_offer_91 (by decide) ?_
              refine lv_iadd zx zy dX2_offer_92 ?_
              refine lv_topi (fun v22 ev22 => ?_)
              obtain rfl : v22 = nI (k + 1) := ev22.trans (nI_1 k)
              refine fx_put (C := RX2) (T := TX2) (N := 6) (ty := .int) (ws2 := [(h, .inr (2, [.ref r0, .ref r1, .ref r2, .ref r3, .int (nI (k + 1)), .int al])), (r0, .inr (6, [.ref a0])), (a0, .inl (cI, 40, .inl (rSq f0 p k (nI w)))), (r1, .inr (6, [.ref a1])), (a1, .inl (cI, 40, .inl (rSq f1 p k t))), (r2, .inr (6, [.ref a2])), (a2, .inl (cI, 40, .inl (rSq f2 p k c))), (r3, .inr (6, [.ref a3])), (a3, .inl (cI, 10, .inl f3))]) hC (fun _ h => List.mem_cons_of_mem _ (List.mem_append_left _ (List.mem_append_right _ h))) tyX2_ok nmX2 hH 0 rfl rfl 4 (by decide) (by decide +kernel) rfl rfl rfl rfl (Nat.le_of_ble_eq_true rfl) rfl dX2_offer_93 (fun H locs hH => ?_)
              refine lv_aload_n zx zy dX2_offer_96 rfl (lv_at hl 0 rfl) ?_
              refine lv_dup zx zy dX2_offer_97 rfl ?_
              refine fx_get (C := RX2) (T := TX2) (N := 6) hC (fun _ h => List.mem_cons_of_mem _ (List.mem_append_left _ (List.mem_append_right _ h))) hH 0 rfl rfl 5 (by decide) (by decide +kernel) rfl dX2_offer_98 ?_
              refine lv_iload_n zx zy dX2_offer_101 rfl (lv_at hl 2 rfl) ?_
              refine lv_iadd zx zy dX2_offer_102 ?_
              refine fx_put (C := RX2) (T := TX2) (N := 6) (ty := .int) (ws2 := [(h, .inr (2, [.ref r0, .ref r1, .ref r2, .ref r3, .int (nI (k + 1)), .int (al + t)])), (r0, .inr (6, [.ref a0])), (a0, .inl (cI, 40, .inl (rSq f0 p k (nI w)))), (r1, .inr (6, [.ref a1])), (a1, .inl (cI, 40, .inl (rSq f1 p k t))), (r2, .inr (6, [.ref a2])), (a2, .inl (cI, 40, .inl (rSq f2 p k c))), (r3, .inr (6, [.ref a3])), (a3, .inl (cI, 10, .inl f3))]) hC (fun _ h => List.mem_cons_of_mem _ (List.mem_append_left _ (List.mem_append_right _ h))) tyX2_ok nmX2 hH 0 rfl rfl 5 (by decide) (by decide +kernel) rfl rfl rfl rfl (Nat.le_of_ble_eq_true rfl) rfl dX2_offer_103 (fun H locs hH => ?_)
              refine lv_aload_n zx zy dX2_offer_106 rfl (lv_at hl 0 rfl) ?_
              refine fx_get (C := RX2) (T := TX2) (N := 6) hC (fun _ h => List.mem_cons_of_mem _ (List.mem_append_left _ (List.mem_append_right _ h))) hH 0 rfl rfl 3 (by decide) (by decide +kernel) rfl dX2_offer_107 ?_
              refine lv_iload_n zx zy dX2_offer_110 rfl (lv_at hl 1 rfl) ?_
              refine lv_iconst (v := 1) zx zy dX2_offer_111 (by decide) ?_
              refine fx_cVv (n := 2) (As := [.int (nI w), .int 1]) (b := r3) (rest := []) (fun (u : (Nat → Int32)) => [(h, .inr (2, [.ref r0, .ref r1, .ref r2, .ref r3, .int (nI (k + 1)), .int (al + t)])), (r0, .inr (6, [.ref a0])), (a0, .inl (cI, 40, .inl (rSq f0 p k (nI w)))), (r1, .inr (6, [.ref a1])), (a1, .inl (cI, 40, .inl (rSq f1 p k t))), (r2, .inr (6, [.ref a2])), (a2, .inl (cI, 40, .inl (rSq f2 p k c))), (r3, .inr (6, [.ref a3])), (a3, .inl (cI, 10, .inl u))]) hC hA hH (k_X6_add l D cI cZ r3 a3 10 f3 (nI w) 1 (by first | assumption | omega)) [7, 8] [0, 1, 2, 3, 4, 5, 6] [0, 1, 2, 3, 4, 5, 6, 7, 8] [(h, .inr (2, [.ref r0, .ref r1, .ref r2, .ref r3, .int (nI (k + 1)), .int (al + t)])), (r0, .inr (6, [.ref a0])), (a0, .inl (cI, 40, .inl (rSq f0 p k (nI w)))), (r1, .inr (6, [.ref a1])), (a1, .inl (cI, 40, .inl (rSq f1 p k t))), (r2, .inr (6, [.ref a2])), (a2, .inl (cI, 40, .inl (rSq f2 p k c)))] rfl rfl (by decide) (by decide) (fun _ => rfl) rfl gX2_offer_X6_add (by decide +kernel) ⟨Nat.le_of_ble_eq_true rfl, Nat.le_of_ble_eq_true rfl⟩ 0 rfl rfl rfl rfl rfl hl.1 (Nat.le_of_ble_eq_true rfl) ⟨Nat.le_of_ble_eq_true rfl, Nat.le_of_ble_eq_true rfl⟩ dX2_offer_112 (fun u H locs hw112 hH => ?_)
              obtain ⟨u24, rfl⟩ : ∃ z, z = u := ⟨_, rfl⟩
              obtain rfl : u24 = rPut 10 f3 (nI w) (rAt 10 f3 (nI w) + 1) := hw112
              have hH := (hH : fx_H zA zs.heap H locs D [(h, .inr (2, [.ref r0, .ref r1, .ref r2, .ref r3, .int (nI (k + 1)), .int (al + t)])), (r0, .inr (6, [.ref a0])), (a0, .inl (cI, 40, .inl (rSq f0 p k (nI w)))), (r1, .inr (6, [.ref a1])), (a1, .inl (cI, 40, .inl (rSq f1 p k t))), (r2, .inr (6, [.ref a2])), (a2, .inl (cI, 40, .inl (rSq f2 p k c))), (r3, .inr (6, [.ref a3])), (a3, .inl (cI, 10, .inl (rPut 10 f3 (nI w) (rAt 10 f3 (nI w) + 1))))])
              rw [show (rPut 10 f3 (nI w) (rAt 10 f3 (nI w) + 1) : Nat → Int32) = upd f3 w (f3 w + 1) from rAdd_nI hw (by omega)] at hH
              refine lv_aload_n zx zy dX2_offer_115 rfl (lv_at hl 0 rfl) ?_
              refine fx_get (C := RX2) (T := TX2) (N := 6) hC (fun _ h => List.mem_cons_of_mem _ (List.mem_append_left _ (List.mem_append_right _ h))) hH 0 rfl rfl 3 (by decide) (by decide +kernel) rfl dX2_offer_116 ?_
              refine lv_iload_n zx zy dX2_offer_119 rfl (lv_at hl 1 rfl) ?_
              refine fx_cVi (n := 1) (As := [.int (nI w)]) (b := r3) (rest := []) (fun (u : Unit) => [(h, .inr (2, [.ref r0, .ref r1, .ref r2, .ref r3, .int (nI (k + 1)), .int (al + t)])), (r0, .inr (6, [.ref a0])), (a0, .inl (cI, 40, .inl (rSq f0 p k (nI w)))), (r1, .inr (6, [.ref a1])), (a1, .inl (cI, 40, .inl (rSq f1 p k t))), (r2, .inr (6, [.ref a2])), (a2, .inl (cI, 40, .inl (rSq f2 p k c))), (r3, .inr (6, [.ref a3])), (a3, .inl (cI, 10, .inl (upd f3 w (f3 w + 1))))]) hC hA hH (k_X6_at l D cI cZ r3 a3 10 (upd f3 w (f3 w + 1)) (nI w) (by first | assumption | omega)) [7, 8] [0, 1, 2, 3, 4, 5, 6] [0, 1, 2, 3, 4, 5, 6, 7, 8] [(h, .inr (2, [.ref r0, .ref r1, .ref r2, .ref r3, .int (nI (k + 1)), .int (al + t)])), (r0, .inr (6, [.ref a0])), (a0, .inl (cI, 40, .inl (rSq f0 p k (nI w)))), (r1, .inr (6, [.ref a1])), (a1, .inl (cI, 40, .inl (rSq f1 p k t))), (r2, .inr (6, [.ref a2])), (a2, .inl (cI, 40, .inl (rSq f2 p k c)))] rfl rfl (by decide) (by decide) (fun _ => rfl) rfl gX2_offer_X6_at (by decide +kernel) ⟨Nat.le_of_ble_eq_true rfl, Nat.le_of_ble_eq_true rfl⟩ 0 rfl rfl rfl rfl rfl hl.1 (Nat.le_of_ble_eq_true rfl) ⟨Nat.le_of_ble_eq_true rfl, Nat.le_of_ble_eq_true rfl⟩ dX2_offer_120 (fun r25 u H locs hw120 hH => ?_)
              obtain rfl : r25 = rAt 10 (upd f3 w (f3 w + 1)) (nI w) := hw120
              have hH := (hH : fx_H zA zs.heap H locs D [(h, .inr (2, [.ref r0, .ref r1, .ref r2, .ref r3, .int (nI (k + 1)), .int (al + t)])), (r0, .inr (6, [.ref a0])), (a0, .inl (cI, 40, .inl (rSq f0 p k (nI w)))), (r1, .inr (6, [.ref a1])), (a1, .inl (cI, 40, .inl (rSq f1 p k t))), (r2, .inr (6, [.ref a2])), (a2, .inl (cI, 40, .inl (rSq f2 p k c))), (r3, .inr (6, [.ref a3])), (a3, .inl (cI, 10, .inl (upd f3 w (f3 w + 1))))])
              refine lv_topi (fun v26 ev26 => ?_)
              obtain rfl : v26 = f3 w + 1 := ev26.trans ((rAt_nI hw (by omega)).trans pk_us)
              exact fx_iret (v := f3 w + 1) hQ hC hr hlk hH dX2_offer_123 rfl (Nat.le_of_ble_eq_true rfl) (Nat.le_of_ble_eq_true rfl) (((k + 1), al + t, rSq f0 p k (nI w), rSq f1 p k t, rSq f2 p k c, upd f3 w (f3 w + 1))) rfl (Or.inl ⟨c9, by subst hpe; exact ⟨rfl, rfl, rfl, rfl, rfl, rfl, rfl⟩⟩)
            · exact absurd c35 (by decide)
    exact L20 _ k (by first | assumption | omega) (rfl) _ _ _ (Nat.lt_succ_self _) hH (lv_sub hl [1, 2, 3, 4, 0] rfl)
  · skip
    refine lv_iconst (v := (-1)) zx zy dX2_offer_12 (by decide) ?_
    exact fx_iret (v := (-1)) hQ hC hr hlk hH dX2_offer_13 rfl (Nat.le_of_ble_eq_true rfl) (Nat.le_of_ble_eq_true rfl) ((k, al, f0, f1, f2, f3)) rfl (Or.inr ⟨c9, rfl, rfl, rfl, rfl, rfl, rfl, rfl⟩)
set_option maxHeartbeats 4000000 in
set_option maxRecDepth 100000 in
theorem k_X2_costOf (l : Launch) (D : va_G) (cI cZ : ClassId) (h : Nat) (r0 : Nat) (r1 : Nat) (r2 : Nat) (r3 : Nat) (k : Nat) (al : Int32) (a1 : Nat) (a2 : Nat) (f1 : Nat → Int32) (f2 : Nat → Int32) (n : Int32) (hk : k ≤ 40) : fx_CI l D cI cZ yX2_costOf wsX2_costOf ({ frames := 1, cells := 0, slots := 0, locals := 24 }) [.ref h, .int n] [(h, .inr (2, [.ref r0, .ref r1, .ref r2, .ref r3, .int (nI k), .int al])), (r1, .inr (6, [.ref a1])), (a1, .inl (cI, 40, .inl f1)), (r2, .inr (6, [.ref a2])), (a2, .inl (cI, 40, .inl f2))] (fun (u : Unit) => [(h, .inr (2, [.ref r0, .ref r1, .ref r2, .ref r3, .int (nI k), .int al])), (r1, .inr (6, [.ref a1])), (a1, .inl (cI, 40, .inl f1)), (r2, .inr (6, [.ref a2])), (a2, .inl (cI, 40, .inl f2))]) (fun (r : Int32) (u : Unit) => r = csS f1 f2 n k) := by
  refine fx_CI.of (ws' := (wsX2_costOf).tail) cX2_costOf 6 (by decide) rfl (Nat.le_of_ble_eq_true rfl) ?_
  intro zp ze zs zm za zb zt zc zA ls zQ hQ hC hr hlk hA hH hl
  have zx := hC.1.1
  have zy := hC.1.2.1
  have hl : lv_has ls 6 [(0, .ref h), (1, .int n)] := hl
  refine lv_iload_n zx zy dX2_costOf_0 rfl (lv_at hl 1 rfl) ?_
  refine lv_istore_n (lv' := [(2, .int n), (0, .ref h), (1, .int n)]) zx zy dX2_costOf_1 rfl hl (by decide) rfl (fun ls hl => ?_)
  refine lv_iconst (v := 0) zx zy dX2_costOf_2 (by decide) ?_
  refine lv_istore_n (lv' := [(3, .int 0), (2, .int n), (0, .ref h), (1, .int n)]) zx zy dX2_costOf_3 rfl hl (by decide) rfl (fun ls hl => ?_)
  refine lv_iconst (v := 0) zx zy dX2_costOf_4 (by decide) ?_
  refine lv_topi (fun v1 ev1 => ?_)
  obtain rfl : v1 = nI 0 := ev1.trans (rfl)
  refine lv_istore (lv' := [(4, .int (nI 0)), (3, .int 0), (2, .int n), (0, .ref h), (1, .int n)]) zx zy dX2_costOf_5 hl (by decide) rfl (fun ls hl => ?_)
  have L7 : ∀ (fu : Nat) (i : Nat) (lf : Int32) (sm : Int32) (hi : i ≤ k) (hl2 : lf = csL f1 n i) (hs : sm = csS f1 f2 n i) (H : Heap) (locs : List Loc) (ls : Array Slot), k - i < fu → fx_H zA zs.heap H locs D [(h, .inr (2, [.ref r0, .ref r1, .ref r2, .ref r3, .int (nI k), .int al])), (r1, .inr (6, [.ref a1])), (a1, .inl (cI, 40, .inl f1)), (r2, .inr (6, [.ref a2])), (a2, .inl (cI, 40, .inl f2))] → lv_has ls 6 [(0, .ref h), (1, .int n), (2, .int lf), (3, .int sm), (4, .int (nI i))] → W zp l ze ({ frames := 1, cells := 0, slots := 0, locals := 24 }) zs zm za zb zt zc H locs (0) (0) zQ (F0 zm 7 ls []) := by
    intro fu
    induction fu with
    | zero => intro i lf sm hi hl2 hs H locs ls hfu; exact absurd hfu (Nat.not_lt_zero _)
    | succ fu ih7 =>
      intro i lf sm hi hl2 hs H locs ls hfu7 hH hl
      refine lv_iload zx zy dX2_costOf_7 (lv_at hl 4 rfl) ?_
      refine lv_aload_n zx zy dX2_costOf_9 rfl (lv_at hl 0 rfl) ?_
      refine fx_get (C := RX2) (T := TX2) (N := 6) hC (fun _ h => List.mem_cons_of_mem _ (List.mem_append_left _ (List.mem_append_right _ h))) hH 0 rfl rfl 4 (by decide) (by decide +kernel) rfl dX2_costOf_10 ?_
      refine lv_icmp_ge (tgt := 57) zx zy dX2_costOf_13 (by decide) (fun c13 => ?_) (fun c13 => ?_)
      · skip
        refine lv_iload_n zx zy dX2_costOf_57 rfl (lv_at hl 3 rfl) ?_
        exact fx_iret (v := sm) hQ hC hr hlk hH dX2_costOf_58 rfl (Nat.le_of_ble_eq_true rfl) (Nat.le_of_ble_eq_true rfl) (()) rfl (by rw [hs, Nat.le_antisymm hi (fx_le_of c13 (by omega) (by omega))])
      · skip
        have hlt : i < k := fx_lt_of c13 (by omega)
        refine lv_iload_n zx zy dX2_costOf_16 rfl (lv_at hl 2 rfl) ?_
        refine lv_aload_n zx zy dX2_costOf_17 rfl (lv_at hl 0 rfl) ?_
        refine fx_get (C := RX2) (T := TX2) (N := 6) hC (fun _ h => List.mem_cons_of_mem _ (List.mem_append_left _ (List.mem_append_right _ h))) hH 0 rfl rfl 1 (by decide) (by decide +kernel) rfl dX2_costOf_18 ?_
        refine lv_iload zx zy dX2_costOf_21 (lv_at hl 4 rfl) ?_
        refine fx_cVi (n := 1) (As := [.int (nI i)]) (b := r1) (rest := [.int lf]) (fun (u : Unit) => [(h, .inr (2, [.ref r0, .ref r1, .ref r2, .ref r3, .int (nI k), .int al])), (r1, .inr (6, [.ref a1])), (a1, .inl (cI, 40, .inl f1)), (r2, .inr (6, [.ref a2])), (a2, .inl (cI, 40, .inl f2))]) hC hA hH (k_X6_at l D cI cZ r1 a1 40 f1 (nI i) (by first | assumption | omega)) [1, 2] [0, 3, 4] [0, 3, 4, 1, 2] [(h, .inr (2, [.ref r0, .ref r1, .ref r2, .ref r3, .int (nI k), .int al])), (r2, .inr (6, [.ref a2])), (a2, .inl (cI, 40, .inl f2))] rfl rfl (by decide) (by decide) (fun _ => rfl) rfl gX2_costOf_X6_at (by decide +kernel) ⟨Nat.le_of_ble_eq_true rfl, Nat.le_of_ble_eq_true rfl⟩ 0 rfl rfl rfl rfl rfl hl.1 (Nat.le_of_ble_eq_true rfl) ⟨Nat.le_of_ble_eq_true rfl, Nat.le_of_ble_eq_true rfl⟩ dX2_costOf_23 (fun r2 u H locs hw23 hH => ?_)
        obtain rfl : r2 = rAt 40 f1 (nI i) := hw23
        have hH := (hH : fx_H zA zs.heap H locs D [(h, .inr (2, [.ref r0, .ref r1, .ref r2, .ref r3, .int (nI k), .int al])), (r1, .inr (6, [.ref a1])), (a1, .inl (cI, 40, .inl f1)), (r2, .inr (6, [.ref a2])), (a2, .inl (cI, 40, .inl f2))])
        refine lv_topi (fun v3 ev3 => ?_)
        obtain rfl : v3 = f1 i := ev3.trans (rAt_nI (by omega) (by omega))
        refine fx_min hC hl.1 (by decide +kernel) (Nat.le_of_ble_eq_true rfl) (Nat.le_of_ble_eq_true rfl) (Nat.le_of_ble_eq_true rfl) (Nat.le_of_ble_eq_true rfl) dX2_costOf_26 ?_
        refine lv_istore (lv' := [(5, .int (if f1 i < lf then f1 i else lf)), (0, .ref h), (1, .int n), (2, .int lf), (3, .int sm), (4, .int (nI i))]) zx zy dX2_costOf_29 hl (by decide) rfl (fun ls hl => ?_)
        refine lv_iload_n zx zy dX2_costOf_31 rfl (lv_at hl 4 rfl) ?_
        refine lv_iload zx zy dX2_costOf_32 (lv_at hl 0 rfl) ?_
        refine lv_aload_n zx zy dX2_costOf_34 rfl (lv_at hl 1 rfl) ?_
        refine fx_get (C := RX2) (T := TX2) (N := 6) hC (fun _ h => List.mem_cons_of_mem _ (List.mem_append_left _ (List.mem_append_right _ h))) hH 0 rfl rfl 2 (by decide) (by decide +kernel) rfl dX2_costOf_35 ?_
        refine lv_iload zx zy dX2_costOf_38 (lv_at hl 5 rfl) ?_
        refine fx_cVi (n := 1) (As := [.int (nI i)]) (b := r2) (rest := [.int (if f1 i < lf then f1 i else lf), .int sm]) (fun (u : Unit) => [(h, .inr (2, [.ref r0, .ref r1, .ref r2, .ref r3, .int (nI k), .int al])), (r1, .inr (6, [.ref a1])), (a1, .inl (cI, 40, .inl f1)), (r2, .inr (6, [.ref a2])), (a2, .inl (cI, 40, .inl f2))]) hC hA hH (k_X6_at l D cI cZ r2 a2 40 f2 (nI i) (by first | assumption | omega)) [3, 4] [0, 1, 2] [0, 1, 2, 3, 4] [(h, .inr (2, [.ref r0, .ref r1, .ref r2, .ref r3, .int (nI k), .int al])), (r1, .inr (6, [.ref a1])), (a1, .inl (cI, 40, .inl f1))] rfl rfl (by decide) (by decide) (fun _ => rfl) rfl gX2_costOf_X6_at (by decide +kernel) ⟨Nat.le_of_ble_eq_true rfl, Nat.le_of_ble_eq_true rfl⟩ 0 rfl rfl rfl rfl rfl hl.1 (Nat.le_of_ble_eq_true rfl) ⟨Nat.le_of_ble_eq_true rfl, Nat.le_of_ble_eq_true rfl⟩ dX2_costOf_40 (fun r4 u H locs hw40 hH => ?_)
        obtain rfl : r4 = rAt 40 f2 (nI i) := hw40
        have hH := (hH : fx_H zA zs.heap H locs D [(h, .inr (2, [.ref r0, .ref r1, .ref r2, .ref r3, .int (nI k), .int al])), (r1, .inr (6, [.ref a1])), (a1, .inl (cI, 40, .inl f1)), (r2, .inr (6, [.ref a2])), (a2, .inl (cI, 40, .inl f2))])
        refine lv_topi (fun v5 ev5 => ?_)
        obtain rfl : v5 = f2 i := ev5.trans (rAt_nI (by omega) (by omega))
        refine lv_imul zx zy dX2_costOf_43 ?_
        refine lv_iadd zx zy dX2_costOf_44 ?_
        refine lv_istore_n (lv' := [(3, .int (sm + ((if f1 i < lf then f1 i else lf) * (f2 i)))), (5, .int (if f1 i < lf then f1 i else lf)), (0, .ref h), (1, .int n), (2, .int lf), (4, .int (nI i))]) zx zy dX2_costOf_45 rfl hl (by decide) rfl (fun ls hl => ?_)
        refine lv_iload_n zx zy dX2_costOf_46 rfl (lv_at hl 4 rfl) ?_
        refine lv_iload zx zy dX2_costOf_47 (lv_at hl 1 rfl) ?_
        refine lv_isub zx zy dX2_costOf_49 ?_
        refine lv_istore_n (lv' := [(2, .int (lf - (if f1 i < lf then f1 i else lf))), (3, .int (sm + ((if f1 i < lf then f1 i else lf) * (f2 i)))), (5, .int (if f1 i < lf then f1 i else lf)), (0, .ref h), (1, .int n), (4, .int (nI i))]) zx zy dX2_costOf_50 rfl hl (by decide) rfl (fun ls hl => ?_)
        refine lv_iinc (v := nI (i + 1)) (lv' := [(4, .int (nI (i + 1))), (2, .int (lf - (if f1 i < lf then f1 i else lf))), (3, .int (sm + ((if f1 i < lf then f1 i else lf) * (f2 i)))), (5, .int (if f1 i < lf then f1 i else lf)), (0, .ref h), (1, .int n)]) zx zy dX2_costOf_51 hl (k := 5) rfl (nI_1 _) (by decide) rfl (fun ls hl => ?_)
        refine lv_goto (tgt := 7) zx zy dX2_costOf_54 (by decide) ?_
        exact ih7 (i + 1) (lf - (if f1 i < lf then f1 i else lf)) (sm + ((if f1 i < lf then f1 i else lf) * (f2 i))) (by first | assumption | omega) (by subst hl2; rfl) (by subst hl2; subst hs; rfl) _ _ _ (by omega) hH (lv_sub hl [4, 5, 1, 2, 0] rfl)
  exact L7 _ 0 n 0 (by first | assumption | omega) (rfl) (rfl) _ _ _ (Nat.lt_succ_self _) hH (lv_sub hl [3, 4, 2, 1, 0] rfl)
set_option maxHeartbeats 4000000 in
set_option maxRecDepth 100000 in
theorem k_X2_dearestOf (l : Launch) (D : va_G) (cI cZ : ClassId) (h : Nat) (r0 : Nat) (r1 : Nat) (r2 : Nat) (r3 : Nat) (k : Nat) (al : Int32) (a1 : Nat) (a2 : Nat) (f1 : Nat → Int32) (f2 : Nat → Int32) (n : Int32) (hk : k ≤ 40) : fx_CI l D cI cZ yX2_dearestOf wsX2_dearestOf ({ frames := 1, cells := 0, slots := 0, locals := 21 }) [.ref h, .int n] [(h, .inr (2, [.ref r0, .ref r1, .ref r2, .ref r3, .int (nI k), .int al])), (r1, .inr (6, [.ref a1])), (a1, .inl (cI, 40, .inl f1)), (r2, .inr (6, [.ref a2])), (a2, .inl (cI, 40, .inl f2))] (fun (u : Unit) => [(h, .inr (2, [.ref r0, .ref r1, .ref r2, .ref r3, .int (nI k), .int al])), (r1, .inr (6, [.ref a1])), (a1, .inl (cI, 40, .inl f1)), (r2, .inr (6, [.ref a2])), (a2, .inl (cI, 40, .inl f2))]) (fun (r : Int32) (u : Unit) => r = deG f1 f2 k 0 n 0) := by
  refine fx_CI.of (ws' := (wsX2_dearestOf).tail) cX2_dearestOf 5 (by decide) rfl (Nat.le_of_ble_eq_true rfl) ?_
  intro zp ze zs zm za zb zt zc zA ls zQ hQ hC hr hlk hA hH hl
  have zx := hC.1.1
  have zy := hC.1.2.1
  have hl : lv_has ls 5 [(0, .ref h), (1, .int n)] := hl
  refine lv_iload_n zx zy dX2_dearestOf_0 rfl (lv_at hl 1 rfl) ?_
  refine lv_istore_n (lv' := [(2, .int n), (0, .ref h), (1, .int n)]) zx zy dX2_dearestOf_1 rfl hl (by decide) rfl (fun ls hl => ?_)
  refine lv_iconst (v := 0) zx zy dX2_dearestOf_2 (by decide) ?_
  refine lv_istore_n (lv' := [(3, .int 0), (2, .int n), (0, .ref h), (1, .int n)]) zx zy dX2_dearestOf_3 rfl hl (by decide) rfl (fun ls hl => ?_)
  refine lv_iconst (v := 0) zx zy dX2_dearestOf_4 (by decide) ?_
  refine lv_topi (fun v1 ev1 => ?_)
  obtain rfl : v1 = nI 0 := ev1.trans (rfl)
  refine lv_istore (lv' := [(4, .int (nI 0)), (3, .int 0), (2, .int n), (0, .ref h), (1, .int n)]) zx zy dX2_dearestOf_5 hl (by decide) rfl (fun ls hl => ?_)
  have L7 : ∀ (fu : Nat) (i : Nat) (lf : Int32) (d : Int32) (hi : i ≤ k) (hd : deG f1 f2 (k - i) i lf d = deG f1 f2 k 0 n 0) (H : Heap) (locs : List Loc) (ls : Array Slot), k - i < fu → fx_H zA zs.heap H locs D [(h, .inr (2, [.ref r0, .ref r1, .ref r2, .ref r3, .int (nI k), .int al])), (r1, .inr (6, [.ref a1])), (a1, .inl (cI, 40, .inl f1)), (r2, .inr (6, [.ref a2])), (a2, .inl (cI, 40, .inl f2))] → lv_has ls 5 [(0, .ref h), (1, .int n), (2, .int lf), (3, .int d), (4, .int (nI i))] → W zp l ze ({ frames := 1, cells := 0, slots := 0, locals := 21 }) zs zm za zb zt zc H locs (0) (0) zQ (F0 zm 7 ls []) := by
    intro fu
    induction fu with
    | zero => intro i lf d hi hd H locs ls hfu; exact absurd hfu (Nat.not_lt_zero _)
    | succ fu ih7 =>
      intro i lf d hi hd H locs ls hfu7 hH hl
      refine lv_iload zx zy dX2_dearestOf_7 (lv_at hl 4 rfl) ?_
      refine lv_aload_n zx zy dX2_dearestOf_9 rfl (lv_at hl 0 rfl) ?_
      refine fx_get (C := RX2) (T := TX2) (N := 6) hC (fun _ h => List.mem_cons_of_mem _ (List.mem_append_left _ (List.mem_append_right _ h))) hH 0 rfl rfl 4 (by decide) (by decide +kernel) rfl dX2_dearestOf_10 ?_
      refine lv_icmp_ge (tgt := 48) zx zy dX2_dearestOf_13 (by decide) (fun c13 => ?_) (fun c13 => ?_)
      · skip
        refine lv_iload_n zx zy dX2_dearestOf_48 rfl (lv_at hl 3 rfl) ?_
        exact fx_iret (v := d) hQ hC hr hlk hH dX2_dearestOf_49 rfl (Nat.le_of_ble_eq_true rfl) (Nat.le_of_ble_eq_true rfl) (()) rfl (by first | exact ((deG_e c17).symm.trans hd) | exact (by rw [← hd, show k - i = 0 from Nat.sub_eq_zero_of_le (fx_le_of c13 (by omega) (by omega))]; rfl))
      · skip
        have hlt : i < k := fx_lt_of c13 (by omega)
        refine lv_iload_n zx zy dX2_dearestOf_16 rfl (lv_at hl 2 rfl) ?_
        refine lv_if_le (tgt := 48) zx zy dX2_dearestOf_17 (by decide) (fun c17 => ?_) (fun c17 => ?_)
        · skip
          refine lv_iload_n zx zy dX2_dearestOf_48 rfl (lv_at hl 3 rfl) ?_
          exact fx_iret (v := d) hQ hC hr hlk hH dX2_dearestOf_49 rfl (Nat.le_of_ble_eq_true rfl) (Nat.le_of_ble_eq_true rfl) (()) rfl (by first | exact ((deG_e c17).symm.trans hd) | exact (by rw [← hd, show k - i = 0 from Nat.sub_eq_zero_of_le (fx_le_of c13 (by omega) (by omega))]; rfl))
        · skip
          refine lv_aload_n zx zy dX2_dearestOf_20 rfl (lv_at hl 0 rfl) ?_
          refine fx_get (C := RX2) (T := TX2) (N := 6) hC (fun _ h => List.mem_cons_of_mem _ (List.mem_append_left _ (List.mem_append_right _ h))) hH 0 rfl rfl 2 (by decide) (by decide +kernel) rfl dX2_dearestOf_21 ?_
          refine lv_iload zx zy dX2_dearestOf_24 (lv_at hl 4 rfl) ?_
          refine fx_cVi (n := 1) (As := [.int (nI i)]) (b := r2) (rest := []) (fun (u : Unit) => [(h, .inr (2, [.ref r0, .ref r1, .ref r2, .ref r3, .int (nI k), .int al])), (r1, .inr (6, [.ref a1])), (a1, .inl (cI, 40, .inl f1)), (r2, .inr (6, [.ref a2])), (a2, .inl (cI, 40, .inl f2))]) hC hA hH (k_X6_at l D cI cZ r2 a2 40 f2 (nI i) (by first | assumption | omega)) [3, 4] [0, 1, 2] [0, 1, 2, 3, 4] [(h, .inr (2, [.ref r0, .ref r1, .ref r2, .ref r3, .int (nI k), .int al])), (r1, .inr (6, [.ref a1])), (a1, .inl (cI, 40, .inl f1))] rfl rfl (by decide) (by decide) (fun _ => rfl) rfl gX2_dearestOf_X6_at (by decide +kernel) ⟨Nat.le_of_ble_eq_true rfl, Nat.le_of_ble_eq_true rfl⟩ 0 rfl rfl rfl rfl rfl hl.1 (Nat.le_of_ble_eq_true rfl) ⟨Nat.le_of_ble_eq_true rfl, Nat.le_of_ble_eq_true rfl⟩ dX2_dearestOf_26 (fun r2 u H locs hw26 hH => ?_)
          obtain rfl : r2 = rAt 40 f2 (nI i) := hw26
          have hH := (hH : fx_H zA zs.heap H locs D [(h, .inr (2, [.ref r0, .ref r1, .ref r2, .ref r3, .int (nI k), .int al])), (r1, .inr (6, [.ref a1])), (a1, .inl (cI, 40, .inl f1)), (r2, .inr (6, [.ref a2])), (a2, .inl (cI, 40, .inl f2))])
          refine lv_topi (fun v3 ev3 => ?_)
          obtain rfl : v3 = f2 i := ev3.trans (rAt_nI (by omega) (by omega))
          refine lv_istore_n (lv' := [(3, .int (f2 i)), (0, .ref h), (1, .int n), (2, .int lf), (4, .int (nI i))]) zx zy dX2_dearestOf_29 rfl hl (by decide) rfl (fun ls hl => ?_)
          refine lv_iload_n zx zy dX2_dearestOf_30 rfl (lv_at hl 3 rfl) ?_
          refine lv_aload_n zx zy dX2_dearestOf_31 rfl (lv_at hl 1 rfl) ?_
          refine fx_get (C := RX2) (T := TX2) (N := 6) hC (fun _ h => List.mem_cons_of_mem _ (List.mem_append_left _ (List.mem_append_right _ h))) hH 0 rfl rfl 1 (by decide) (by decide +kernel) rfl dX2_dearestOf_32 ?_
          refine lv_iload zx zy dX2_dearestOf_35 (lv_at hl 4 rfl) ?_
          refine fx_cVi (n := 1) (As := [.int (nI i)]) (b := r1) (rest := [.int lf]) (fun (u : Unit) => [(h, .inr (2, [.ref r0, .ref r1, .ref r2, .ref r3, .int (nI k), .int al])), (r1, .inr (6, [.ref a1])), (a1, .inl (cI, 40, .inl f1)), (r2, .inr (6, [.ref a2])), (a2, .inl (cI, 40, .inl f2))]) hC hA hH (k_X6_at l D cI cZ r1 a1 40 f1 (nI i) (by first | assumption | omega)) [1, 2] [0, 3, 4] [0, 3, 4, 1, 2] [(h, .inr (2, [.ref r0, .ref r1, .ref r2, .ref r3, .int (nI k), .int al])), (r2, .inr (6, [.ref a2])), (a2, .inl (cI, 40, .inl f2))] rfl rfl (by decide) (by decide) (fun _ => rfl) rfl gX2_dearestOf_X6_at (by decide +kernel) ⟨Nat.le_of_ble_eq_true rfl, Nat.le_of_ble_eq_true rfl⟩ 0 rfl rfl rfl rfl rfl hl.1 (Nat.le_of_ble_eq_true rfl) ⟨Nat.le_of_ble_eq_true rfl, Nat.le_of_ble_eq_true rfl⟩ dX2_dearestOf_37 (fun r4 u H locs hw37 hH => ?_)
          obtain rfl : r4 = rAt 40 f1 (nI i) := hw37
          have hH := (hH : fx_H zA zs.heap H locs D [(h, .inr (2, [.ref r0, .ref r1, .ref r2, .ref r3, .int (nI k), .int al])), (r1, .inr (6, [.ref a1])), (a1, .inl (cI, 40, .inl f1)), (r2, .inr (6, [.ref a2])), (a2, .inl (cI, 40, .inl f2))])
          refine lv_topi (fun v5 ev5 => ?_)
          obtain rfl : v5 = f1 i := ev5.trans (rAt_nI (by omega) (by omega))
          refine lv_isub zx zy dX2_dearestOf_40 ?_
          refine lv_istore_n (lv' := [(2, .int (lf - (f1 i))), (3, .int (f2 i)), (0, .ref h), (1, .int n), (4, .int (nI i))]) zx zy dX2_dearestOf_41 rfl hl (by decide) rfl (fun ls hl => ?_)
          refine lv_iinc (v := nI (i + 1)) (lv' := [(4, .int (nI (i + 1))), (2, .int (lf - (f1 i))), (3, .int (f2 i)), (0, .ref h), (1, .int n)]) zx zy dX2_dearestOf_42 hl (k := 4) rfl (nI_1 _) (by decide) rfl (fun ls hl => ?_)
          refine lv_goto (tgt := 7) zx zy dX2_dearestOf_45 (by decide) ?_
          exact ih7 (i + 1) (lf - (f1 i)) (f2 i) (by first | assumption | omega) ((deG_s hlt c17).symm.trans hd) _ _ _ (by omega) hH (lv_sub hl [3, 4, 1, 2, 0] rfl)
  exact L7 _ 0 n 0 (by first | assumption | omega) (rfl) _ _ _ (Nat.lt_succ_self _) hH (lv_sub hl [3, 4, 2, 1, 0] rfl)
set_option maxHeartbeats 4000000 in
set_option maxRecDepth 100000 in
theorem k_X2_partOf (l : Launch) (D : va_G) (cI cZ : ClassId) (h : Nat) (r0 : Nat) (r1 : Nat) (r2 : Nat) (r3 : Nat) (k : Nat) (al : Int32) (a0 : Nat) (a1 : Nat) (f0 : Nat → Int32) (f1 : Nat → Int32) (n : Int32) (w : Int32) (hk : k ≤ 40) : fx_CI l D cI cZ yX2_partOf wsX2_partOf ({ frames := 1, cells := 0, slots := 0, locals := 24 }) [.ref h, .int n, .int w] [(h, .inr (2, [.ref r0, .ref r1, .ref r2, .ref r3, .int (nI k), .int al])), (r0, .inr (6, [.ref a0])), (a0, .inl (cI, 40, .inl f0)), (r1, .inr (6, [.ref a1])), (a1, .inl (cI, 40, .inl f1))] (fun (u : Unit) => [(h, .inr (2, [.ref r0, .ref r1, .ref r2, .ref r3, .int (nI k), .int al])), (r0, .inr (6, [.ref a0])), (a0, .inl (cI, 40, .inl f0)), (r1, .inr (6, [.ref a1])), (a1, .inl (cI, 40, .inl f1))]) (fun (r : Int32) (u : Unit) => r = csP f0 f1 n w k) := by
  refine fx_CI.of (ws' := (wsX2_partOf).tail) cX2_partOf 7 (by decide) rfl (Nat.le_of_ble_eq_true rfl) ?_
  intro zp ze zs zm za zb zt zc zA ls zQ hQ hC hr hlk hA hH hl
  have zx := hC.1.1
  have zy := hC.1.2.1
  have hl : lv_has ls 7 [(0, .ref h), (1, .int n), (2, .int w)] := hl
  refine lv_iload_n zx zy dX2_partOf_0 rfl (lv_at hl 1 rfl) ?_
  refine lv_istore_n (lv' := [(3, .int n), (0, .ref h), (1, .int n), (2, .int w)]) zx zy dX2_partOf_1 rfl hl (by decide) rfl (fun ls hl => ?_)
  refine lv_iconst (v := 0) zx zy dX2_partOf_2 (by decide) ?_
  refine lv_istore (lv' := [(4, .int 0), (3, .int n), (0, .ref h), (1, .int n), (2, .int w)]) zx zy dX2_partOf_3 hl (by decide) rfl (fun ls hl => ?_)
  refine lv_iconst (v := 0) zx zy dX2_partOf_5 (by decide) ?_
  refine lv_topi (fun v1 ev1 => ?_)
  obtain rfl : v1 = nI 0 := ev1.trans (rfl)
  refine lv_istore (lv' := [(5, .int (nI 0)), (4, .int 0), (3, .int n), (0, .ref h), (1, .int n), (2, .int w)]) zx zy dX2_partOf_6 hl (by decide) rfl (fun ls hl => ?_)
  have L8 : ∀ (fu : Nat) (i : Nat) (lf : Int32) (sm : Int32) (hi : i ≤ k) (hl2 : lf = csL f1 n i) (hs : sm = csP f0 f1 n w i) (H : Heap) (locs : List Loc) (ls : Array Slot), k - i < fu → fx_H zA zs.heap H locs D [(h, .inr (2, [.ref r0, .ref r1, .ref r2, .ref r3, .int (nI k), .int al])), (r0, .inr (6, [.ref a0])), (a0, .inl (cI, 40, .inl f0)), (r1, .inr (6, [.ref a1])), (a1, .inl (cI, 40, .inl f1))] → lv_has ls 7 [(0, .ref h), (1, .int n), (2, .int w), (3, .int lf), (4, .int sm), (5, .int (nI i))] → W zp l ze ({ frames := 1, cells := 0, slots := 0, locals := 24 }) zs zm za zb zt zc H locs (0) (0) zQ (F0 zm 8 ls []) := by
    intro fu
    induction fu with
    | zero => intro i lf sm hi hl2 hs H locs ls hfu; exact absurd hfu (Nat.not_lt_zero _)
    | succ fu ih8 =>
      intro i lf sm hi hl2 hs H locs ls hfu8 hH hl
      refine lv_iload zx zy dX2_partOf_8 (lv_at hl 5 rfl) ?_
      refine lv_aload_n zx zy dX2_partOf_10 rfl (lv_at hl 0 rfl) ?_
      refine fx_get (C := RX2) (T := TX2) (N := 6) hC (fun _ h => List.mem_cons_of_mem _ (List.mem_append_left _ (List.mem_append_right _ h))) hH 0 rfl rfl 4 (by decide) (by decide +kernel) rfl dX2_partOf_11 ?_
      refine lv_icmp_ge (tgt := 67) zx zy dX2_partOf_14 (by decide) (fun c14 => ?_) (fun c14 => ?_)
      · skip
        refine lv_iload zx zy dX2_partOf_67 (lv_at hl 4 rfl) ?_
        exact fx_iret (v := sm) hQ hC hr hlk hH dX2_partOf_69 rfl (Nat.le_of_ble_eq_true rfl) (Nat.le_of_ble_eq_true rfl) (()) rfl (by rw [hs, Nat.le_antisymm hi (fx_le_of c14 (by omega) (by omega))])
      · skip
        have hlt : i < k := fx_lt_of c14 (by omega)
        refine lv_iload_n zx zy dX2_partOf_17 rfl (lv_at hl 3 rfl) ?_
        refine lv_aload_n zx zy dX2_partOf_18 rfl (lv_at hl 0 rfl) ?_
        refine fx_get (C := RX2) (T := TX2) (N := 6) hC (fun _ h => List.mem_cons_of_mem _ (List.mem_append_left _ (List.mem_append_right _ h))) hH 0 rfl rfl 1 (by decide) (by decide +kernel) rfl dX2_partOf_19 ?_
        refine lv_iload zx zy dX2_partOf_22 (lv_at hl 5 rfl) ?_
        refine fx_cVi (n := 1) (As := [.int (nI i)]) (b := r1) (rest := [.int lf]) (fun (u : Unit) => [(h, .inr (2, [.ref r0, .ref r1, .ref r2, .ref r3, .int (nI k), .int al])), (r0, .inr (6, [.ref a0])), (a0, .inl (cI, 40, .inl f0)), (r1, .inr (6, [.ref a1])), (a1, .inl (cI, 40, .inl f1))]) hC hA hH (k_X6_at l D cI cZ r1 a1 40 f1 (nI i) (by first | assumption | omega)) [3, 4] [0, 1, 2] [0, 1, 2, 3, 4] [(h, .inr (2, [.ref r0, .ref r1, .ref r2, .ref r3, .int (nI k), .int al])), (r0, .inr (6, [.ref a0])), (a0, .inl (cI, 40, .inl f0))] rfl rfl (by decide) (by decide) (fun _ => rfl) rfl gX2_partOf_X6_at (by decide +kernel) ⟨Nat.le_of_ble_eq_true rfl, Nat.le_of_ble_eq_true rfl⟩ 0 rfl rfl rfl rfl rfl hl.1 (Nat.le_of_ble_eq_true rfl) ⟨Nat.le_of_ble_eq_true rfl, Nat.le_of_ble_eq_true rfl⟩ dX2_partOf_24 (fun r2 u H locs hw24 hH => ?_)
        obtain rfl : r2 = rAt 40 f1 (nI i) := hw24
        have hH := (hH : fx_H zA zs.heap H locs D [(h, .inr (2, [.ref r0, .ref r1, .ref r2, .ref r3, .int (nI k), .int al])), (r0, .inr (6, [.ref a0])), (a0, .inl (cI, 40, .inl f0)), (r1, .inr (6, [.ref a1])), (a1, .inl (cI, 40, .inl f1))])
        refine lv_topi (fun v3 ev3 => ?_)
        obtain rfl : v3 = f1 i := ev3.trans (rAt_nI (by omega) (by omega))
        refine fx_min hC hl.1 (by decide +kernel) (Nat.le_of_ble_eq_true rfl) (Nat.le_of_ble_eq_true rfl) (Nat.le_of_ble_eq_true rfl) (Nat.le_of_ble_eq_true rfl) dX2_partOf_27 ?_
        refine lv_istore (lv' := [(6, .int (if f1 i < lf then f1 i else lf)), (0, .ref h), (1, .int n), (2, .int w), (3, .int lf), (4, .int sm), (5, .int (nI i))]) zx zy dX2_partOf_30 hl (by decide) rfl (fun ls hl => ?_)
        refine lv_iload zx zy dX2_partOf_32 (lv_at hl 5 rfl) ?_
        refine lv_aload_n zx zy dX2_partOf_34 rfl (lv_at hl 1 rfl) ?_
        refine fx_get (C := RX2) (T := TX2) (N := 6) hC (fun _ h => List.mem_cons_of_mem _ (List.mem_append_left _ (List.mem_append_right _ h))) hH 0 rfl rfl 0 (by decide) (by decide +kernel) rfl dX2_partOf_35 ?_
        refine lv_iload zx zy dX2_partOf_38 (lv_at hl 6 rfl) ?_
        refine fx_cVi (n := 1) (As := [.int (nI i)]) (b := r0) (rest := [.int sm]) (fun (u : Unit) => [(h, .inr (2, [.ref r0, .ref r1, .ref r2, .ref r3, .int (nI k), .int al])), (r0, .inr (6, [.ref a0])), (a0, .inl (cI, 40, .inl f0)), (r1, .inr (6, [.ref a1])), (a1, .inl (cI, 40, .inl f1))]) hC hA hH (k_X6_at l D cI cZ r0 a0 40 f0 (nI i) (by first | assumption | omega)) [1, 2] [0, 3, 4] [0, 3, 4, 1, 2] [(h, .inr (2, [.ref r0, .ref r1, .ref r2, .ref r3, .int (nI k), .int al])), (r1, .inr (6, [.ref a1])), (a1, .inl (cI, 40, .inl f1))] rfl rfl (by decide) (by decide) (fun _ => rfl) rfl gX2_partOf_X6_at (by decide +kernel) ⟨Nat.le_of_ble_eq_true rfl, Nat.le_of_ble_eq_true rfl⟩ 0 rfl rfl rfl rfl rfl hl.1 (Nat.le_of_ble_eq_true rfl) ⟨Nat.le_of_ble_eq_true rfl, Nat.le_of_ble_eq_true rfl⟩ dX2_partOf_40 (fun r4 u H locs hw40 hH => ?_)
        obtain rfl : r4 = rAt 40 f0 (nI i) := hw40
        have hH := (hH : fx_H zA zs.heap H locs D [(h, .inr (2, [.ref r0, .ref r1, .ref r2, .ref r3, .int (nI k), .int al])), (r0, .inr (6, [.ref a0])), (a0, .inl (cI, 40, .inl f0)), (r1, .inr (6, [.ref a1])), (a1, .inl (cI, 40, .inl f1))])
        refine lv_topi (fun v5 ev5 => ?_)
        obtain rfl : v5 = f0 i := ev5.trans (rAt_nI (by omega) (by omega))
        refine lv_iload_n zx zy dX2_partOf_43 rfl (lv_at hl 3 rfl) ?_
        refine lv_icmp_ne (tgt := 52) zx zy dX2_partOf_44 (by decide) (fun c44 => ?_) (fun c44 => ?_)
        · skip
          refine lv_iconst (v := 0) zx zy dX2_partOf_52 (by decide) ?_
          refine lv_iadd zx zy dX2_partOf_53 ?_
          refine lv_istore (lv' := [(4, .int (sm + 0)), (6, .int (if f1 i < lf then f1 i else lf)), (0, .ref h), (1, .int n), (2, .int w), (3, .int lf), (5, .int (nI i))]) zx zy dX2_partOf_54 hl (by decide) rfl (fun ls hl => ?_)
          refine lv_iload_n zx zy dX2_partOf_56 rfl (lv_at hl 5 rfl) ?_
          refine lv_iload zx zy dX2_partOf_57 (lv_at hl 1 rfl) ?_
          refine lv_isub zx zy dX2_partOf_59 ?_
          refine lv_istore_n (lv' := [(3, .int (lf - (if f1 i < lf then f1 i else lf))), (4, .int (sm + 0)), (6, .int (if f1 i < lf then f1 i else lf)), (0, .ref h), (1, .int n), (2, .int w), (5, .int (nI i))]) zx zy dX2_partOf_60 rfl hl (by decide) rfl (fun ls hl => ?_)
          refine lv_iinc (v := nI (i + 1)) (lv' := [(5, .int (nI (i + 1))), (3, .int (lf - (if f1 i < lf then f1 i else lf))), (4, .int (sm + 0)), (6, .int (if f1 i < lf then f1 i else lf)), (0, .ref h), (1, .int n), (2, .int w)]) zx zy dX2_partOf_61 hl (k := 6) rfl (nI_1 _) (by decide) rfl (fun ls hl => ?_)
          refine lv_goto (tgt := 8) zx zy dX2_partOf_64 (by decide) ?_
          exact ih8 (i + 1) (lf - (if f1 i < lf then f1 i else lf)) (sm + 0) (by first | assumption | omega) (by subst hl2; rfl) (by subst hl2; subst hs; first | (simp only [csP, if_pos c44]; rfl) | (simp only [csP, if_neg c44]; done)) _ _ _ (by omega) hH (lv_sub hl [4, 5, 6, 1, 2, 0] rfl)
        · skip
          refine lv_iload zx zy dX2_partOf_47 (lv_at hl 0 rfl) ?_
          refine lv_goto (tgt := 53) zx zy dX2_partOf_49 (by decide) ?_
          refine lv_iadd zx zy dX2_partOf_53 ?_
          refine lv_istore (lv' := [(4, .int (sm + (if f1 i < lf then f1 i else lf))), (6, .int (if f1 i < lf then f1 i else lf)), (0, .ref h), (1, .int n), (2, .int w), (3, .int lf), (5, .int (nI i))]) zx zy dX2_partOf_54 hl (by decide) rfl (fun ls hl => ?_)
          refine lv_iload_n zx zy dX2_partOf_56 rfl (lv_at hl 5 rfl) ?_
          refine lv_iload zx zy dX2_partOf_57 (lv_at hl 1 rfl) ?_
          refine lv_isub zx zy dX2_partOf_59 ?_
          refine lv_istore_n (lv' := [(3, .int (lf - (if f1 i < lf then f1 i else lf))), (4, .int (sm + (if f1 i < lf then f1 i else lf))), (6, .int (if f1 i < lf then f1 i else lf)), (0, .ref h), (1, .int n), (2, .int w), (5, .int (nI i))]) zx zy dX2_partOf_60 rfl hl (by decide) rfl (fun ls hl => ?_)
          refine lv_iinc (v := nI (i + 1)) (lv' := [(5, .int (nI (i + 1))), (3, .int (lf - (if f1 i < lf then f1 i else lf))), (4, .int (sm + (if f1 i < lf then f1 i else lf))), (6, .int (if f1 i < lf then f1 i else lf)), (0, .ref h), (1, .int n), (2, .int w)]) zx zy dX2_partOf_61 hl (k := 6) rfl (nI_1 _) (by decide) rfl (fun ls hl => ?_)
          refine lv_goto (tgt := 8) zx zy dX2_partOf_64 (by decide) ?_
          exact ih8 (i + 1) (lf - (if f1 i < lf then f1 i else lf)) (sm + (if f1 i < lf then f1 i else lf)) (by first | assumption | omega) (by subst hl2; rfl) (by subst hl2; subst hs; first | (simp only [csP, if_pos c44]; rfl) | (simp only [csP, if_neg c44]; done)) _ _ _ (by omega) hH (lv_sub hl [4, 5, 6, 1, 2, 0] rfl)
  exact L8 _ 0 n 0 (by first | assumption | omega) (rfl) (rfl) _ _ _ (Nat.lt_succ_self _) hH (lv_sub hl [3, 4, 5, 2, 1, 0] rfl)
