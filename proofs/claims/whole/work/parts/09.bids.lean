/-- where a bid of price x comes to stand among the first k -/
def enP (f : Nat → Int32) (x : Int32) : Nat → Nat
  | 0 => 0
  | p + 1 => if x ≤ f p then p + 1 else enP f x p
theorem enP_le (f : Nat → Int32) (x : Int32) : ∀ k, enP f x k ≤ k
  | 0 => Nat.le_refl _
  | k + 1 => by
    have := enP_le f x k
    unfold enP
    split <;> omega
theorem enP_s {f : Nat → Int32} {x : Int32} {p : Nat} (hp : 0 < p) (h : ¬ x ≤ f (p - 1)) : enP f x p = enP f x (p - 1) := by
  obtain ⟨q, rfl⟩ : ∃ q, p = q + 1 := ⟨p - 1, by omega⟩
  exact if_neg h
theorem enP_e {f : Nat → Int32} {x : Int32} {p : Nat} (hp : 0 < p) (h : x ≤ f (p - 1)) : enP f x p = p := by
  obtain ⟨q, rfl⟩ : ∃ q, p = q + 1 := ⟨p - 1, by omega⟩
  exact if_pos h
theorem fx_pos_of {p : Nat} (h : ¬ nI p ≤ 0) (hp : p < 2 ^ 31) : 0 < p := by
  rcases Nat.eq_zero_or_pos p with e | e
  · exact absurd (by rw [e]; decide) h
  · exact e
theorem fx_zero_of {p : Nat} (h : nI p ≤ 0) (hp : p < 2 ^ 31) : p = 0 := Nat.le_zero.mp (fx_le_of (b := 0) h (by omega) hp)
set_option maxHeartbeats 4000000 in
set_option maxRecDepth 100000 in
theorem k_X1_areFull (l : Launch) (D : va_G) (cI cZ : ClassId) (h : Nat) (r0 : Nat) (r1 : Nat) (r2 : Nat) (r3 : Nat) (k : Nat) (hk : k ≤ 40) : fx_CI l D cI cZ yX1_areFull wsX1_areFull ({ frames := 0, cells := 0, slots := 0, locals := 0 }) [.ref h] [(h, .inr (1, [.ref r0, .ref r1, .ref r2, .ref r3, .int (nI k)]))] (fun (u : Unit) => [(h, .inr (1, [.ref r0, .ref r1, .ref r2, .ref r3, .int (nI k)]))]) (fun (r : Int32) (u : Unit) => ((¬ k < 40) ∧ r = 1) ∨ ((k < 40) ∧ r = 0)) := by
  refine fx_CI.of (ws' := (wsX1_areFull).tail) cX1_areFull 1 (by decide) rfl (Nat.le_of_ble_eq_true rfl) ?_
  intro zp ze zs zm za zb zt zc zA ls zQ hQ hC hr hlk hA hH hl
  have zx := hC.1.1
  have zy := hC.1.2.1
  have hl : lv_has ls 1 [(0, .ref h)] := hl
  refine lv_aload_n zx zy dX1_areFull_0 rfl (lv_at hl 0 rfl) ?_
  refine fx_get (C := RX1) (T := TX1) (N := 5) hC (fun _ h => List.mem_cons_of_mem _ (List.mem_append_right _ h)) hH 0 rfl rfl 4 (by decide) (by decide +kernel) rfl dX1_areFull_1 ?_
  refine lv_bipush (v := 40) zx zy dX1_areFull_4 (by decide) ?_
  refine lv_icmp_lt (tgt := 13) zx zy dX1_areFull_6 (by decide) (fun c6 => ?_) (fun c6 => ?_)
  · skip
    refine lv_iconst (v := 0) zx zy dX1_areFull_13 (by decide) ?_
    exact fx_iret (v := 0) hQ hC hr hlk hH dX1_areFull_14 rfl (Nat.le_of_ble_eq_true rfl) (Nat.le_of_ble_eq_true rfl) (()) rfl (by first | exact Or.inl ⟨fun h => c6 (nI_lt (b := 40) h (by omega)), rfl⟩ | exact Or.inr ⟨(nI_ltI (b := 40) (by omega) (by omega)).mp c6, rfl⟩)
  · skip
    refine lv_iconst (v := 1) zx zy dX1_areFull_9 (by decide) ?_
    refine lv_goto (tgt := 14) zx zy dX1_areFull_10 (by decide) ?_
    exact fx_iret (v := 1) hQ hC hr hlk hH dX1_areFull_14 rfl (Nat.le_of_ble_eq_true rfl) (Nat.le_of_ble_eq_true rfl) (()) rfl (by first | exact Or.inl ⟨fun h => c6 (nI_lt (b := 40) h (by omega)), rfl⟩ | exact Or.inr ⟨(nI_ltI (b := 40) (by omega) (by omega)).mp c6, rfl⟩)
set_option maxHeartbeats 4000000 in
set_option maxRecDepth 100000 in
theorem k_X1_enter (l : Launch) (D : va_G) (cI cZ : ClassId) (h : Nat) (r0 : Nat) (r1 : Nat) (r2 : Nat) (r3 : Nat) (k : Nat) (a0 : Nat) (a1 : Nat) (a2 : Nat) (a3 : Nat) (f0 : Nat → Int32) (f1 : Nat → Int32) (f2 : Nat → Int32) (f3 : Nat → Int32) (w : Int32) (n : Int32) (x : Int32) (hk : k < 40) : fx_CI l D cI cZ yX1_enter wsX1_enter ({ frames := 2, cells := 0, slots := 0, locals := 46 }) [.ref h, .int w, .int n, .int x] [(h, .inr (1, [.ref r0, .ref r1, .ref r2, .ref r3, .int (nI k)])), (r0, .inr (6, [.ref a0])), (a0, .inl (cI, 40, .inl f0)), (r1, .inr (6, [.ref a1])), (a1, .inl (cI, 40, .inl f1)), (r2, .inr (6, [.ref a2])), (a2, .inl (cI, 40, .inl f2)), (r3, .inr (6, [.ref a3])), (a3, .inl (cI, 40, .inl f3))] (fun (u : (Nat) × (Nat → Int32) × (Nat → Int32) × (Nat → Int32) × (Nat → Int32)) => [(h, .inr (1, [.ref r0, .ref r1, .ref r2, .ref r3, .int (nI u.1)])), (r0, .inr (6, [.ref a0])), (a0, .inl (cI, 40, .inl u.2.1)), (r1, .inr (6, [.ref a1])), (a1, .inl (cI, 40, .inl u.2.2.1)), (r2, .inr (6, [.ref a2])), (a2, .inl (cI, 40, .inl u.2.2.2.1)), (r3, .inr (6, [.ref a3])), (a3, .inl (cI, 40, .inl u.2.2.2.2))]) (fun (r : Int32) (u : (Nat) × (Nat → Int32) × (Nat → Int32) × (Nat → Int32) × (Nat → Int32)) => r = nI (k + 1) ∧ u.1 = k + 1 ∧ u.2.1 = rSq f0 (enP f2 x k) k w ∧ u.2.2.1 = rSq f1 (enP f2 x k) k n ∧ u.2.2.2.1 = rSq f2 (enP f2 x k) k x ∧ u.2.2.2.2 = upd f3 k 0) := by
  refine fx_CI.of (ws' := (wsX1_enter).tail) cX1_enter 5 (by decide) rfl (Nat.le_of_ble_eq_true rfl) ?_
  intro zp ze zs zm za zb zt zc zA ls zQ hQ hC hr hlk hA hH hl
  have zx := hC.1.1
  have zy := hC.1.2.1
  have hl : lv_has ls 5 [(0, .ref h), (1, .int w), (2, .int n), (3, .int x)] := hl
  refine lv_aload_n zx zy dX1_enter_0 rfl (lv_at hl 0 rfl) ?_
  refine fx_get (C := RX1) (T := TX1) (N := 5) hC (fun _ h => List.mem_cons_of_mem _ (List.mem_append_left _ (List.mem_append_right _ h))) hH 0 rfl rfl 4 (by decide) (by decide +kernel) rfl dX1_enter_1 ?_
  refine lv_istore (lv' := [(4, .int (nI k)), (0, .ref h), (1, .int w), (2, .int n), (3, .int x)]) zx zy dX1_enter_4 hl (by decide) rfl (fun ls hl => ?_)
  have L6 : ∀ (fu : Nat) (p : Nat) (hp : p ≤ k) (he : enP f2 x p = enP f2 x k) (H : Heap) (locs : List Loc) (ls : Array Slot), p < fu → fx_H zA zs.heap H locs D [(h, .inr (1, [.ref r0, .ref r1, .ref r2, .ref r3, .int (nI k)])), (r0, .inr (6, [.ref a0])), (a0, .inl (cI, 40, .inl f0)), (r1, .inr (6, [.ref a1])), (a1, .inl (cI, 40, .inl f1)), (r2, .inr (6, [.ref a2])), (a2, .inl (cI, 40, .inl f2)), (r3, .inr (6, [.ref a3])), (a3, .inl (cI, 40, .inl f3))] → lv_has ls 5 [(0, .ref h), (1, .int w), (2, .int n), (3, .int x), (4, .int (nI p))] → W zp l ze ({ frames := 2, cells := 0, slots := 0, locals := 46 }) zs zm za zb zt zc H locs (0) (0) zQ (F0 zm 6 ls []) := by
    intro fu
    induction fu with
    | zero => intro p hp he H locs ls hfu; exact absurd hfu (Nat.not_lt_zero _)
    | succ fu ih6 =>
      intro p hp he H locs ls hfu6 hH hl
      refine lv_iload zx zy dX1_enter_6 (lv_at hl 4 rfl) ?_
      refine lv_if_le (tgt := 32) zx zy dX1_enter_8 (by decide) (fun c8 => ?_) (fun c8 => ?_)
      · skip
        have hpe : p = enP f2 x k := by rw [← he, fx_zero_of c8 (by omega)]; rfl
        refine lv_aload_n zx zy dX1_enter_32 rfl (lv_at hl 0 rfl) ?_
        refine fx_get (C := RX1) (T := TX1) (N := 5) hC (fun _ h => List.mem_cons_of_mem _ (List.mem_append_left _ (List.mem_append_right _ h))) hH 0 rfl rfl 0 (by decide) (by decide +kernel) rfl dX1_enter_33 ?_
        refine lv_iload zx zy dX1_enter_36 (lv_at hl 4 rfl) ?_
        refine lv_aload_n zx zy dX1_enter_38 rfl (lv_at hl 0 rfl) ?_
        refine fx_get (C := RX1) (T := TX1) (N := 5) hC (fun _ h => List.mem_cons_of_mem _ (List.mem_append_left _ (List.mem_append_right _ h))) hH 0 rfl rfl 4 (by decide) (by decide +kernel) rfl dX1_enter_39 ?_
        refine lv_iload_n zx zy dX1_enter_42 rfl (lv_at hl 1 rfl) ?_
        refine fx_cVv (n := 3) (As := [.int (nI p), .int (nI k), .int w]) (b := r0) (rest := []) (fun (u : (Nat → Int32)) => [(h, .inr (1, [.ref r0, .ref r1, .ref r2, .ref r3, .int (nI k)])), (r0, .inr (6, [.ref a0])), (a0, .inl (cI, 40, .inl u)), (r1, .inr (6, [.ref a1])), (a1, .inl (cI, 40, .inl f1)), (r2, .inr (6, [.ref a2])), (a2, .inl (cI, 40, .inl f2)), (r3, .inr (6, [.ref a3])), (a3, .inl (cI, 40, .inl f3))]) hC hA hH (k_X6_squeeze l D cI cZ r0 a0 40 f0 p k w (by first | assumption | omega) (by first | assumption | omega) (by first | assumption | omega)) [1, 2] [0, 3, 4, 5, 6, 7, 8] [0, 7, 8, 1, 2, 3, 4, 5, 6] [(h, .inr (1, [.ref r0, .ref r1, .ref r2, .ref r3, .int (nI k)])), (r1, .inr (6, [.ref a1])), (a1, .inl (cI, 40, .inl f1)), (r2, .inr (6, [.ref a2])), (a2, .inl (cI, 40, .inl f2)), (r3, .inr (6, [.ref a3])), (a3, .inl (cI, 40, .inl f3))] rfl rfl (by decide) (by decide) (fun _ => rfl) rfl gX1_enter_X6_squeeze (by decide +kernel) ⟨Nat.le_of_ble_eq_true rfl, Nat.le_of_ble_eq_true rfl⟩ 0 rfl rfl rfl rfl rfl hl.1 (Nat.le_of_ble_eq_true rfl) ⟨Nat.le_of_ble_eq_true rfl, Nat.le_of_ble_eq_true rfl⟩ dX1_enter_43 (fun u H locs hw43 hH => ?_)
        obtain ⟨u2, rfl⟩ : ∃ z, z = u := ⟨_, rfl⟩
        obtain rfl : u2 = rSq f0 p k w := hw43
        have hH := (hH : fx_H zA zs.heap H locs D [(h, .inr (1, [.ref r0, .ref r1, .ref r2, .ref r3, .int (nI k)])), (r0, .inr (6, [.ref a0])), (a0, .inl (cI, 40, .inl (rSq f0 p k w))), (r1, .inr (6, [.ref a1])), (a1, .inl (cI, 40, .inl f1)), (r2, .inr (6, [.ref a2])), (a2, .inl (cI, 40, .inl f2)), (r3, .inr (6, [.ref a3])), (a3, .inl (cI, 40, .inl f3))])
        refine lv_aload_n zx zy dX1_enter_46 rfl (lv_at hl 0 rfl) ?_
        refine fx_get (C := RX1) (T := TX1) (N := 5) hC (fun _ h => List.mem_cons_of_mem _ (List.mem_append_left _ (List.mem_append_right _ h))) hH 0 rfl rfl 1 (by decide) (by decide +kernel) rfl dX1_enter_47 ?_
        refine lv_iload zx zy dX1_enter_50 (lv_at hl 4 rfl) ?_
        refine lv_aload_n zx zy dX1_enter_52 rfl (lv_at hl 0 rfl) ?_
        refine fx_get (C := RX1) (T := TX1) (N := 5) hC (fun _ h => List.mem_cons_of_mem _ (List.mem_append_left _ (List.mem_append_right _ h))) hH 0 rfl rfl 4 (by decide) (by decide +kernel) rfl dX1_enter_53 ?_
        refine lv_iload_n zx zy dX1_enter_56 rfl (lv_at hl 2 rfl) ?_
        refine fx_cVv (n := 3) (As := [.int (nI p), .int (nI k), .int n]) (b := r1) (rest := []) (fun (u : (Nat → Int32)) => [(h, .inr (1, [.ref r0, .ref r1, .ref r2, .ref r3, .int (nI k)])), (r0, .inr (6, [.ref a0])), (a0, .inl (cI, 40, .inl (rSq f0 p k w))), (r1, .inr (6, [.ref a1])), (a1, .inl (cI, 40, .inl u)), (r2, .inr (6, [.ref a2])), (a2, .inl (cI, 40, .inl f2)), (r3, .inr (6, [.ref a3])), (a3, .inl (cI, 40, .inl f3))]) hC hA hH (k_X6_squeeze l D cI cZ r1 a1 40 f1 p k n (by first | assumption | omega) (by first | assumption | omega) (by first | assumption | omega)) [3, 4] [0, 1, 2, 5, 6, 7, 8] [0, 1, 2, 7, 8, 3, 4, 5, 6] [(h, .inr (1, [.ref r0, .ref r1, .ref r2, .ref r3, .int (nI k)])), (r0, .inr (6, [.ref a0])), (a0, .inl (cI, 40, .inl (rSq f0 p k w))), (r2, .inr (6, [.ref a2])), (a2, .inl (cI, 40, .inl f2)), (r3, .inr (6, [.ref a3])), (a3, .inl (cI, 40, .inl f3))] rfl rfl (by decide) (by decide) (fun _ => rfl) rfl gX1_enter_X6_squeeze (by decide +kernel) ⟨Nat.le_of_ble_eq_true rfl, Nat.le_of_ble_eq_true rfl⟩ 0 rfl rfl rfl rfl rfl hl.1 (Nat.le_of_ble_eq_true rfl) ⟨Nat.le_of_ble_eq_true rfl, Nat.le_of_ble_eq_true rfl⟩ dX1_enter_57 (fun u H locs hw57 hH => ?_)
        obtain ⟨u4, rfl⟩ : ∃ z, z = u := ⟨_, rfl⟩
        obtain rfl : u4 = rSq f1 p k n := hw57
        have hH := (hH : fx_H zA zs.heap H locs D [(h, .inr (1, [.ref r0, .ref r1, .ref r2, .ref r3, .int (nI k)])), (r0, .inr (6, [.ref a0])), (a0, .inl (cI, 40, .inl (rSq f0 p k w))), (r1, .inr (6, [.ref a1])), (a1, .inl (cI, 40, .inl (rSq f1 p k n))), (r2, .inr (6, [.ref a2])), (a2, .inl (cI, 40, .inl f2)), (r3, .inr (6, [.ref a3])), (a3, .inl (cI, 40, .inl f3))])
        refine lv_aload_n zx zy dX1_enter_60 rfl (lv_at hl 0 rfl) ?_
        refine fx_get (C := RX1) (T := TX1) (N := 5) hC (fun _ h => List.mem_cons_of_mem _ (List.mem_append_left _ (List.mem_append_right _ h))) hH 0 rfl rfl 2 (by decide) (by decide +kernel) rfl dX1_enter_61 ?_
        refine lv_iload zx zy dX1_enter_64 (lv_at hl 4 rfl) ?_
        refine lv_aload_n zx zy dX1_enter_66 rfl (lv_at hl 0 rfl) ?_
        refine fx_get (C := RX1) (T := TX1) (N := 5) hC (fun _ h => List.mem_cons_of_mem _ (List.mem_append_left _ (List.mem_append_right _ h))) hH 0 rfl rfl 4 (by decide) (by decide +kernel) rfl dX1_enter_67 ?_
        refine lv_iload_n zx zy dX1_enter_70 rfl (lv_at hl 3 rfl) ?_
        refine fx_cVv (n := 3) (As := [.int (nI p), .int (nI k), .int x]) (b := r2) (rest := []) (fun (u : (Nat → Int32)) => [(h, .inr (1, [.ref r0, .ref r1, .ref r2, .ref r3, .int (nI k)])), (r0, .inr (6, [.ref a0])), (a0, .inl (cI, 40, .inl (rSq f0 p k w))), (r1, .inr (6, [.ref a1])), (a1, .inl (cI, 40, .inl (rSq f1 p k n))), (r2, .inr (6, [.ref a2])), (a2, .inl (cI, 40, .inl u)), (r3, .inr (6, [.ref a3])), (a3, .inl (cI, 40, .inl f3))]) hC hA hH (k_X6_squeeze l D cI cZ r2 a2 40 f2 p k x (by first | assumption | omega) (by first | assumption | omega) (by first | assumption | omega)) [5, 6] [0, 1, 2, 3, 4, 7, 8] [0, 1, 2, 3, 4, 7, 8, 5, 6] [(h, .inr (1, [.ref r0, .ref r1, .ref r2, .ref r3, .int (nI k)])), (r0, .inr (6, [.ref a0])), (a0, .inl (cI, 40, .inl (rSq f0 p k w))), (r1, .inr (6, [.ref a1])), (a1, .inl (cI, 40, .inl (rSq f1 p k n))), (r3, .inr (6, [.ref a3])), (a3, .inl (cI, 40, .inl f3))] rfl rfl (by decide) (by decide) (fun _ => rfl) rfl gX1_enter_X6_squeeze (by decide +kernel) ⟨Nat.le_of_ble_eq_true rfl, Nat.le_of_ble_eq_true rfl⟩ 0 rfl rfl rfl rfl rfl hl.1 (Nat.le_of_ble_eq_true rfl) ⟨Nat.le_of_ble_eq_true rfl, Nat.le_of_ble_eq_true rfl⟩ dX1_enter_71 (fun u H locs hw71 hH => ?_)
        obtain ⟨u6, rfl⟩ : ∃ z, z = u := ⟨_, rfl⟩
        obtain rfl : u6 = rSq f2 p k x := hw71
        have hH := (hH : fx_H zA zs.heap H locs D [(h, .inr (1, [.ref r0, .ref r1, .ref r2, .ref r3, .int (nI k)])), (r0, .inr (6, [.ref a0])), (a0, .inl (cI, 40, .inl (rSq f0 p k w))), (r1, .inr (6, [.ref a1])), (a1, .inl (cI, 40, .inl (rSq f1 p k n))), (r2, .inr (6, [.ref a2])), (a2, .inl (cI, 40, .inl (rSq f2 p k x))), (r3, .inr (6, [.ref a3])), (a3, .inl (cI, 40, .inl f3))])
        refine lv_aload_n zx zy dX1_enter_74 rfl (lv_at hl 0 rfl) ?_
        refine fx_get (C := RX1) (T := TX1) (N := 5) hC (fun _ h => List.mem_cons_of_mem _ (List.mem_append_left _ (List.mem_append_right _ h))) hH 0 rfl rfl 3 (by decide) (by decide +kernel) rfl dX1_enter_75 ?_
        refine lv_aload_n zx zy dX1_enter_78 rfl (lv_at hl 0 rfl) ?_
        refine fx_get (C := RX1) (T := TX1) (N := 5) hC (fun _ h => List.mem_cons_of_mem _ (List.mem_append_left _ (List.mem_append_right _ h))) hH 0 rfl rfl 4 (by decide) (by decide +kernel) rfl dX1_enter_79 ?_
        refine lv_iconst (v := 0) zx zy dX1_enter_82 (by decide) ?_
        refine fx_cVv (n := 2) (As := [.int (nI k), .int 0]) (b := r3) (rest := []) (fun (u : (Nat → Int32)) => [(h, .inr (1, [.ref r0, .ref r1, .ref r2, .ref r3, .int (nI k)])), (r0, .inr (6, [.ref a0])), (a0, .inl (cI, 40, .inl (rSq f0 p k w))), (r1, .inr (6, [.ref a1])), (a1, .inl (cI, 40, .inl (rSq f1 p k n))), (r2, .inr (6, [.ref a2])), (a2, .inl (cI, 40, .inl (rSq f2 p k x))), (r3, .inr (6, [.ref a3])), (a3, .inl (cI, 40, .inl u))]) hC hA hH (k_X6_put l D cI cZ r3 a3 40 f3 (nI k) 0 (by first | assumption | omega)) [7, 8] [0, 1, 2, 3, 4, 5, 6] [0, 1, 2, 3, 4, 5, 6, 7, 8] [(h, .inr (1, [.ref r0, .ref r1, .ref r2, .ref r3, .int (nI k)])), (r0, .inr (6, [.ref a0])), (a0, .inl (cI, 40, .inl (rSq f0 p k w))), (r1, .inr (6, [.ref a1])), (a1, .inl (cI, 40, .inl (rSq f1 p k n))), (r2, .inr (6, [.ref a2])), (a2, .inl (cI, 40, .inl (rSq f2 p k x)))] rfl rfl (by decide) (by decide) (fun _ => rfl) rfl gX1_enter_X6_put (by decide +kernel) ⟨Nat.le_of_ble_eq_true rfl, Nat.le_of_ble_eq_true rfl⟩ 0 rfl rfl rfl rfl rfl hl.1 (Nat.le_of_ble_eq_true rfl) ⟨Nat.le_of_ble_eq_true rfl, Nat.le_of_ble_eq_true rfl⟩ dX1_enter_83 (fun u H locs hw83 hH => ?_)
        obtain ⟨u8, rfl⟩ : ∃ z, z = u := ⟨_, rfl⟩
        obtain rfl : u8 = rPut 40 f3 (nI k) 0 := hw83
        have hH := (hH : fx_H zA zs.heap H locs D [(h, .inr (1, [.ref r0, .ref r1, .ref r2, .ref r3, .int (nI k)])), (r0, .inr (6, [.ref a0])), (a0, .inl (cI, 40, .inl (rSq f0 p k w))), (r1, .inr (6, [.ref a1])), (a1, .inl (cI, 40, .inl (rSq f1 p k n))), (r2, .inr (6, [.ref a2])), (a2, .inl (cI, 40, .inl (rSq f2 p k x))), (r3, .inr (6, [.ref a3])), (a3, .inl (cI, 40, .inl (rPut 40 f3 (nI k) 0)))])
        rw [show (rPut 40 f3 (nI k) 0 : Nat → Int32) = upd f3 k 0 from rPut_nI hk (by omega)] at hH
        refine lv_aload_n zx zy dX1_enter_86 rfl (lv_at hl 0 rfl) ?_
        refine lv_dup zx zy dX1_enter_87 rfl ?_
        refine fx_get (C := RX1) (T := TX1) (N := 5) hC (fun _ h => List.mem_cons_of_mem _ (List.mem_append_left _ (List.mem_append_right _ h))) hH 0 rfl rfl 4 (by decide) (by decide +kernel) rfl dX1_enter_88 ?_
        refine lv_iconst (v := 1) zx zy dX1_enter_91 (by decide) ?_
        refine lv_iadd zx zy dX1_enter_92 ?_
        refine lv_topi (fun v9 ev9 => ?_)
        obtain rfl : v9 = nI (k + 1) := ev9.trans (nI_1 k)
        refine fx_put (C := RX1) (T := TX1) (N := 5) (ty := .int) (ws2 := [(h, .inr (1, [.ref r0, .ref r1, .ref r2, .ref r3, .int (nI (k + 1))])), (r0, .inr (6, [.ref a0])), (a0, .inl (cI, 40, .inl (rSq f0 p k w))), (r1, .inr (6, [.ref a1])), (a1, .inl (cI, 40, .inl (rSq f1 p k n))), (r2, .inr (6, [.ref a2])), (a2, .inl (cI, 40, .inl (rSq f2 p k x))), (r3, .inr (6, [.ref a3])), (a3, .inl (cI, 40, .inl (upd f3 k 0)))]) hC (fun _ h => List.mem_cons_of_mem _ (List.mem_append_left _ (List.mem_append_right _ h))) tyX1_ok nmX1 hH 0 rfl rfl 4 (by decide) (by decide +kernel) rfl rfl rfl rfl (Nat.le_of_ble_eq_true rfl) rfl dX1_enter_93 (fun H locs hH => ?_)
        refine lv_aload_n zx zy dX1_enter_96 rfl (lv_at hl 0 rfl) ?_
        refine fx_get (C := RX1) (T := TX1) (N := 5) hC (fun _ h => List.mem_cons_of_mem _ (List.mem_append_left _ (List.mem_append_right _ h))) hH 0 rfl rfl 4 (by decide) (by decide +kernel) rfl dX1_enter_97 ?_
        exact fx_iret (v := nI (k + 1)) hQ hC hr hlk hH dX1_enter_100 rfl (Nat.le_of_ble_eq_true rfl) (Nat.le_of_ble_eq_true rfl) (((k + 1), rSq f0 p k w, rSq f1 p k n, rSq f2 p k x, upd f3 k 0)) rfl (by subst hpe; exact ⟨rfl, rfl, rfl, rfl, rfl, rfl⟩)
      · skip
        have hp0 : 0 < p := fx_pos_of c8 (by omega)
        refine lv_aload_n zx zy dX1_enter_11 rfl (lv_at hl 0 rfl) ?_
        refine fx_get (C := RX1) (T := TX1) (N := 5) hC (fun _ h => List.mem_cons_of_mem _ (List.mem_append_left _ (List.mem_append_right _ h))) hH 0 rfl rfl 2 (by decide) (by decide +kernel) rfl dX1_enter_12 ?_
        refine lv_iload zx zy dX1_enter_15 (lv_at hl 4 rfl) ?_
        refine lv_iconst (v := 1) zx zy dX1_enter_17 (by decide) ?_
        refine lv_isub zx zy dX1_enter_18 ?_
        refine lv_topi (fun v10 ev10 => ?_)
        obtain rfl : v10 = nI (p - 1) := ev10.trans (fx_m1 hp0)
        refine fx_cVi (n := 1) (As := [.int (nI (p - 1))]) (b := r2) (rest := []) (fun (u : Unit) => [(h, .inr (1, [.ref r0, .ref r1, .ref r2, .ref r3, .int (nI k)])), (r0, .inr (6, [.ref a0])), (a0, .inl (cI, 40, .inl f0)), (r1, .inr (6, [.ref a1])), (a1, .inl (cI, 40, .inl f1)), (r2, .inr (6, [.ref a2])), (a2, .inl (cI, 40, .inl f2)), (r3, .inr (6, [.ref a3])), (a3, .inl (cI, 40, .inl f3))]) hC hA hH (k_X6_at l D cI cZ r2 a2 40 f2 (nI (p - 1)) (by first | assumption | omega)) [5, 6] [0, 1, 2, 3, 4, 7, 8] [0, 1, 2, 3, 4, 7, 8, 5, 6] [(h, .inr (1, [.ref r0, .ref r1, .ref r2, .ref r3, .int (nI k)])), (r0, .inr (6, [.ref a0])), (a0, .inl (cI, 40, .inl f0)), (r1, .inr (6, [.ref a1])), (a1, .inl (cI, 40, .inl f1)), (r3, .inr (6, [.ref a3])), (a3, .inl (cI, 40, .inl f3))] rfl rfl (by decide) (by decide) (fun _ => rfl) rfl gX1_enter_X6_at (by decide +kernel) ⟨Nat.le_of_ble_eq_true rfl, Nat.le_of_ble_eq_true rfl⟩ 0 rfl rfl rfl rfl rfl hl.1 (Nat.le_of_ble_eq_true rfl) ⟨Nat.le_of_ble_eq_true rfl, Nat.le_of_ble_eq_true rfl⟩ dX1_enter_19 (fun r11 u H locs hw19 hH => ?_)
        obtain rfl : r11 = rAt 40 f2 (nI (p - 1)) := hw19
        have hH := (hH : fx_H zA zs.heap H locs D [(h, .inr (1, [.ref r0, .ref r1, .ref r2, .ref r3, .int (nI k)])), (r0, .inr (6, [.ref a0])), (a0, .inl (cI, 40, .inl f0)), (r1, .inr (6, [.ref a1])), (a1, .inl (cI, 40, .inl f1)), (r2, .inr (6, [.ref a2])), (a2, .inl (cI, 40, .inl f2)), (r3, .inr (6, [.ref a3])), (a3, .inl (cI, 40, .inl f3))])
        refine lv_topi (fun v12 ev12 => ?_)
        obtain rfl : v12 = f2 (p - 1) := ev12.trans (rAt_nI (by omega) (by omega))
        refine lv_iload_n zx zy dX1_enter_22 rfl (lv_at hl 3 rfl) ?_
        refine lv_icmp_ge (tgt := 32) zx zy dX1_enter_23 (by decide) (fun c23 => ?_) (fun c23 => ?_)
        · skip
          have hpe : p = enP f2 x k := by rw [← he, enP_e hp0 c23]
          refine lv_aload_n zx zy dX1_enter_32 rfl (lv_at hl 0 rfl) ?_
          refine fx_get (C := RX1) (T := TX1) (N := 5) hC (fun _ h => List.mem_cons_of_mem _ (List.mem_append_left _ (List.mem_append_right _ h))) hH 0 rfl rfl 0 (by decide) (by decide +kernel) rfl dX1_enter_33 ?_
          refine lv_iload zx zy dX1_enter_36 (lv_at hl 4 rfl) ?_
          refine lv_aload_n zx zy dX1_enter_38 rfl (lv_at hl 0 rfl) ?_
          refine fx_get (C := RX1) (T := TX1) (N := 5) hC (fun _ h => List.mem_cons_of_mem _ (List.mem_append_left _ (List.mem_append_right _ h))) hH 0 rfl rfl 4 (by decide) (by decide +kernel) rfl dX1_enter_39 ?_
          refine lv_iload_n zx zy dX1_enter_42 rfl (lv_at hl 1 rfl) ?_
          refine fx_cVv (n := 3) (As := [.int (nI p), .int (nI k), .int w]) (b := r0) (rest := []) (fun (u : (Nat → Int32)) => [(h, .inr (1, [.ref r0, .ref r1, .ref r2, .ref r3, .int (nI k)])), (r0, .inr (6, [.ref a0])), (a0, .inl (cI, 40, .inl u)), (r1, .inr (6, [.ref a1])), (a1, .inl (cI, 40, .inl f1)), (r2, .inr (6, [.ref a2])), (a2, .inl (cI, 40, .inl f2)), (r3, .inr (6, [.ref a3])), (a3, .inl (cI, 40, .inl f3))]) hC hA hH (k_X6_squeeze l D cI cZ r0 a0 40 f0 p k w (by first | assumption | omega) (by first | assumption | omega) (by first | assumption | omega)) [1, 2] [0, 3, 4, 5, 6, 7, 8] [0, 7, 8, 1, 2, 3, 4, 5, 6] [(h, .inr (1, [.ref r0, .ref r1, .ref r2, .ref r3, .int (nI k)])), (r1, .inr (6, [.ref a1])), (a1, .inl (cI, 40, .inl f1)), (r2, .inr (6, [.ref a2])), (a2, .inl (cI, 40, .inl f2)), (r3, .inr (6, [.ref a3])), (a3, .inl (cI, 40, .inl f3))] rfl rfl (by decide) (by decide) (fun _ => rfl) rfl gX1_enter_X6_squeeze (by decide +kernel) ⟨Nat.le_of_ble_eq_true rfl, Nat.le_of_ble_eq_true rfl⟩ 0 rfl rfl rfl rfl rfl hl.1 (Nat.le_of_ble_eq_true rfl) ⟨Nat.le_of_ble_eq_true rfl, Nat.le_of_ble_eq_true rfl⟩ dX1_enter_43 (fun u H locs hw43 hH => ?_)
          obtain ⟨u14, rfl⟩ : ∃ z, z = u := ⟨_, rfl⟩
          obtain rfl : u14 = rSq f0 p k w := hw43
          have hH := (hH : fx_H zA zs.heap H locs D [(h, .inr (1, [.ref r0, .ref r1, .ref r2, .ref r3, .int (nI k)])), (r0, .inr (6, [.ref a0])), (a0, .inl (cI, 40, .inl (rSq f0 p k w))), (r1, .inr (6, [.ref a1])), (a1, .inl (cI, 40, .inl f1)), (r2, .inr (6, [.ref a2])), (a2, .inl (cI, 40, .inl f2)), (r3, .inr (6, [.ref a3])), (a3, .inl (cI, 40, .inl f3))])
          refine lv_aload_n zx zy dX1_enter_46 rfl (lv_at hl 0 rfl) ?_
          refine fx_get (C := RX1) (T := TX1) (N := 5) hC (fun _ h => List.mem_cons_of_mem _ (List.mem_append_left _ (List.mem_append_right _ h))) hH 0 rfl rfl 1 (by decide) (by decide +kernel) rfl dX1_enter_47 ?_
          refine lv_iload zx zy dX1_enter_50 (lv_at hl 4 rfl) ?_
          refine lv_aload_n zx zy dX1_enter_52 rfl (lv_at hl 0 rfl) ?_
          refine fx_get (C := RX1) (T := TX1) (N := 5) hC (fun _ h => List.mem_cons_of_mem _ (List.mem_append_left _ (List.mem_append_right _ h))) hH 0 rfl rfl 4 (by decide) (by decide +kernel) rfl dX1_enter_53 ?_
          refine lv_iload_n zx zy dX1_enter_56 rfl (lv_at hl 2 rfl) ?_
          refine fx_cVv (n := 3) (As := [.int (nI p), .int (nI k), .int n]) (b := r1) (rest := []) (fun (u : (Nat → Int32)) => [(h, .inr (1, [.ref r0, .ref r1, .ref r2, .ref r3, .int (nI k)])), (r0, .inr (6, [.ref a0])), (a0, .inl (cI, 40, .inl (rSq f0 p k w))), (r1, .inr (6, [.ref a1])), (a1, .inl (cI, 40, .inl u)), (r2, .inr (6, [.ref a2])), (a2, .inl (cI, 40, .inl f2)), (r3, .inr (6, [.ref a3])), (a3, .inl (cI, 40, .inl f3))]) hC hA hH (k_X6_squeeze l D cI cZ r1 a1 40 f1 p k n (by first | assumption | omega) (by first | assumption | omega) (by first | assumption | omega)) [3, 4] [0, 1, 2, 5, 6, 7, 8] [0, 1, 2, 7, 8, 3, 4, 5, 6] [(h, .inr (1, [.ref r0, .ref r1, .ref r2, .ref r3, .int (nI k)])), (r0, .inr (6, [.ref a0])), (a0, .inl (cI, 40, .inl (rSq f0 p k w))), (r2, .inr (6, [.ref a2])), (a2, .inl (cI, 40, .inl f2)), (r3, .inr (6, [.ref a3])), (a3, .inl (cI, 40, .inl f3))] rfl rfl (by decide) (by decide) (fun _ => rfl) rfl gX1_enter_X6_squeeze (by decide +kernel) ⟨Nat.le_of_ble_eq_true rfl, Nat.le_of_ble_eq_true rfl⟩ 0 rfl rfl rfl rfl rfl hl.1 (Nat.le_of_ble_eq_true rfl) ⟨Nat.le_of_ble_eq_true rfl, Nat.le_of_ble_eq_true rfl⟩ dX1_enter_57 (fun u H locs hw57 hH => ?_)
          obtain ⟨u16, rfl⟩ : ∃ z, z = u := ⟨_, rfl⟩
          obtain rfl : u16 = rSq f1 p k n := hw57
          have hH := (hH : fx_H zA zs.heap H locs D [(h, .inr (1, [.ref r0, .ref r1, .ref r2, .ref r3, .int (nI k)])), (r0, .inr (6, [.ref a0])), (a0, .inl (cI, 40, .inl (rSq f0 p k w))), (r1, .inr (6, [.ref a1])), (a1, .inl (cI, 40, .inl (rSq f1 p k n))), (r2, .inr (6, [.ref a2])), (a2, .inl (cI, 40, .inl f2)), (r3, .inr (6, [.ref a3])), (a3, .inl (cI, 40, .inl f3))])
          refine lv_aload_n zx zy dX1_enter_60 rfl (lv_at hl 0 rfl) ?_
          refine fx_get (C := RX1) (T := TX1) (N := 5) hC (fun _ h => List.mem_cons_of_mem _ (List.mem_append_left _ (List.mem_append_right _ h))) hH 0 rfl rfl 2 (by decide) (by decide +kernel) rfl dX1_enter_61 ?_
          refine lv_iload zx zy dX1_enter_64 (lv_at hl 4 rfl) ?_
          refine lv_aload_n zx zy dX1_enter_66 rfl (lv_at hl 0 rfl) ?_
          refine fx_get (C := RX1) (T := TX1) (N := 5) hC (fun _ h => List.mem_cons_of_mem _ (List.mem_append_left _ (List.mem_append_right _ h))) hH 0 rfl rfl 4 (by decide) (by decide +kernel) rfl dX1_enter_67 ?_
          refine lv_iload_n zx zy dX1_enter_70 rfl (lv_at hl 3 rfl) ?_
          refine fx_cVv (n := 3) (As := [.int (nI p), .int (nI k), .int x]) (b := r2) (rest := []) (fun (u : (Nat → Int32)) => [(h, .inr (1, [.ref r0, .ref r1, .ref r2, .ref r3, .int (nI k)])), (r0, .inr (6, [.ref a0])), (a0, .inl (cI, 40, .inl (rSq f0 p k w))), (r1, .inr (6, [.ref a1])), (a1, .inl (cI, 40, .inl (rSq f1 p k n))), (r2, .inr (6, [.ref a2])), (a2, .inl (cI, 40, .inl u)), (r3, .inr (6, [.ref a3])), (a3, .inl (cI, 40, .inl f3))]) hC hA hH (k_X6_squeeze l D cI cZ r2 a2 40 f2 p k x (by first | assumption | omega) (by first | assumption | omega) (by first | assumption | omega)) [5, 6] [0, 1, 2, 3, 4, 7, 8] [0, 1, 2, 3, 4, 7, 8, 5, 6] [(h, .inr (1, [.ref r0, .ref r1, .ref r2, .ref r3, .int (nI k)])), (r0, .inr (6, [.ref a0])), (a0, .inl (cI, 40, .inl (rSq f0 p k w))), (r1, .inr (6, [.ref a1])), (a1, .inl (cI, 40, .inl (rSq f1 p k n))), (r3, .inr (6, [.ref a3])), (a3, .inl (cI, 40, .inl f3))] rfl rfl (by decide) (by decide) (fun _ => rfl) rfl gX1_enter_X6_squeeze (by decide +kernel) ⟨Nat.le_of_ble_eq_true rfl, Nat.le_of_ble_eq_true rfl⟩ 0 rfl rfl rfl rfl rfl hl.1 (Nat.le_of_ble_eq_true rfl) ⟨Nat.le_of_ble_eq_true rfl, Nat.le_of_ble_eq_true rfl⟩ dX1_enter_71 (fun u H locs hw71 hH => ?_)
          obtain ⟨u18, rfl⟩ : ∃ z, z = u := ⟨_, rfl⟩
          obtain rfl : u18 = rSq f2 p k x := hw71
          have hH := (hH : fx_H zA zs.heap H locs D [(h, .inr (1, [.ref r0, .ref r1, .ref r2, .ref r3, .int (nI k)])), (r0, .inr (6, [.ref a0])), (a0, .inl (cI, 40, .inl (rSq f0 p k w))), (r1, .inr (6, [.ref a1])), (a1, .inl (cI, 40, .inl (rSq f1 p k n))), (r2, .inr (6, [.ref a2])), (a2, .inl (cI, 40, .inl (rSq f2 p k x))), (r3, .inr (6, [.ref a3])), (a3, .inl (cI, 40, .inl f3))])
          refine lv_aload_n zx zy dX1_enter_74 rfl (lv_at hl 0 rfl) ?_
          refine fx_get (C := RX1) (T := TX1) (N := 5) hC (fun _ h => List.mem_cons_of_mem _ (List.mem_append_left _ (List.mem_append_right _ h))) hH 0 rfl rfl 3 (by decide) (by decide +kernel) rfl dX1_enter_75 ?_
          refine lv_aload_n zx zy dX1_enter_78 rfl (lv_at hl 0 rfl) ?_
          refine fx_get (C := RX1) (T := TX1) (N := 5) hC (fun _ h => List.mem_cons_of_mem _ (List.mem_append_left _ (List.mem_append_right _ h))) hH 0 rfl rfl 4 (by decide) (by decide +kernel) rfl dX1_enter_79 ?_
          refine lv_iconst (v := 0) zx zy dX1_enter_82 (by decide) ?_
          refine fx_cVv (n := 2) (As := [.int (nI k), .int 0]) (b := r3) (rest := []) (fun (u : (Nat → Int32)) => [(h, .inr (1, [.ref r0, .ref r1, .ref r2, .ref r3, .int (nI k)])), (r0, .inr (6, [.ref a0])), (a0, .inl (cI, 40, .inl (rSq f0 p k w))), (r1, .inr (6, [.ref a1])), (a1, .inl (cI, 40, .inl (rSq f1 p k n))), (r2, .inr (6, [.ref a2])), (a2, .inl (cI, 40, .inl (rSq f2 p k x))), (r3, .inr (6, [.ref a3])), (a3, .inl (cI, 40, .inl u))]) hC hA hH (k_X6_put l D cI cZ r3 a3 40 f3 (nI k) 0 (by first | assumption | omega)) [7, 8] [0, 1, 2, 3, 4, 5, 6] [0, 1, 2, 3, 4, 5, 6, 7, 8] [(h, .inr (1, [.ref r0, .ref r1, .ref r2, .ref r3, .int (nI k)])), (r0, .inr (6, [.ref a0])), (a0, .inl (cI, 40, .inl (rSq f0 p k w))), (r1, .inr (6, [.ref a1])), (a1, .inl (cI, 40, .inl (rSq f1 p k n))), (r2, .inr (6, [.ref a2])), (a2, .inl (cI, 40, .inl (rSq f2 p k x)))] rfl rfl (by decide) (by decide) (fun _ => rfl) rfl gX1_enter_X6_put (by decide +kernel) ⟨Nat.le_of_ble_eq_true rfl, Nat.le_of_ble_eq_true rfl⟩ 0 rfl rfl rfl rfl rfl hl.1 (Nat.le_of_ble_eq_true rfl) ⟨Nat.le_of_ble_eq_true rfl, Nat.le_of_ble_eq_true rfl⟩ dX1_enter_83 (fun u H locs hw83 hH => ?_)
          obtain ⟨u20, rfl⟩ : ∃ z, z = u := ⟨_, rfl⟩
          obtain rfl : u20 = rPut 40 f3 (nI k) 0 := hw83
          have hH := (hH : fx_H zA zs.heap H locs D [(h, .inr (1, [.ref r0, .ref r1, .ref r2, .ref r3, .int (nI k)])), (r0, .inr (6, [.ref a0])), (a0, .inl (cI, 40, .inl (rSq f0 p k w))), (r1, .inr (6, [.ref a1])), (a1, .inl (cI, 40, .inl (rSq f1 p k n))), (r2, .inr (6, [.ref a2])), (a2, .inl (cI, 40, .inl (rSq f2 p k x))), (r3, .inr (6, [.ref a3])), (a3, .inl (cI, 40, .inl (rPut 40 f3 (nI k) 0)))])
          rw [show (rPut 40 f3 (nI k) 0 : Nat → Int32) = upd f3 k 0 from rPut_nI hk (by omega)] at hH
          refine lv_aload_n zx zy dX1_enter_86 rfl (lv_at hl 0 rfl) ?_
          refine lv_dup zx zy dX1_enter_87 rfl ?_
          refine fx_get (C := RX1) (T := TX1) (N := 5) hC (fun _ h => List.mem_cons_of_mem _ (List.mem_append_left _ (List.mem_append_right _ h))) hH 0 rfl rfl 4 (by decide) (by decide +kernel) rfl dX1_enter_88 ?_
          refine lv_iconst (v := 1) zx zy dX1_enter_91 (by decide) ?_
          refine lv_iadd zx zy dX1_enter_92 ?_
          refine lv_topi (fun v21 ev21 => ?_)
          obtain rfl : v21 = nI (k + 1) := ev21.trans (nI_1 k)
          refine fx_put (C := RX1) (T := TX1) (N := 5) (ty := .int) (ws2 := [(h, .inr (1, [.ref r0, .ref r1, .ref r2, .ref r3, .int (nI (k + 1))])), (r0, .inr (6, [.ref a0])), (a0, .inl (cI, 40, .inl (rSq f0 p k w))), (r1, .inr (6, [.ref a1])), (a1, .inl (cI, 40, .inl (rSq f1 p k n))), (r2, .inr (6, [.ref a2])), (a2, .inl (cI, 40, .inl (rSq f2 p k x))), (r3, .inr (6, [.ref a3])), (a3, .inl (cI, 40, .inl (upd f3 k 0)))]) hC (fun _ h => List.mem_cons_of_mem _ (List.mem_append_left _ (List.mem_append_right _ h))) tyX1_ok nmX1 hH 0 rfl rfl 4 (by decide) (by decide +kernel) rfl rfl rfl rfl (Nat.le_of_ble_eq_true rfl) rfl dX1_enter_93 (fun H locs hH => ?_)
          refine lv_aload_n zx zy dX1_enter_96 rfl (lv_at hl 0 rfl) ?_
          refine fx_get (C := RX1) (T := TX1) (N := 5) hC (fun _ h => List.mem_cons_of_mem _ (List.mem_append_left _ (List.mem_append_right _ h))) hH 0 rfl rfl 4 (by decide) (by decide +kernel) rfl dX1_enter_97 ?_
          exact fx_iret (v := nI (k + 1)) hQ hC hr hlk hH dX1_enter_100 rfl (Nat.le_of_ble_eq_true rfl) (Nat.le_of_ble_eq_true rfl) (((k + 1), rSq f0 p k w, rSq f1 p k n, rSq f2 p k x, upd f3 k 0)) rfl (by subst hpe; exact ⟨rfl, rfl, rfl, rfl, rfl, rfl⟩)
        · skip
          refine lv_iinc (v := nI (p - 1)) (lv' := [(4, .int (nI (p - 1))), (0, .ref h), (1, .int w), (2, .int n), (3, .int x)]) zx zy dX1_enter_26 hl (k := 4) rfl (sb_m1 hp0) (by decide) rfl (fun ls hl => ?_)
          refine lv_goto (tgt := 6) zx zy dX1_enter_29 (by decide) ?_
          exact ih6 (p - 1) (by first | assumption | omega) ((enP_s hp0 c23).symm.trans he) _ _ _ (by omega) hH (lv_sub hl [1, 2, 3, 4, 0] rfl)
  exact L6 _ k (by first | assumption | omega) (rfl) _ _ _ (Nat.lt_succ_self _) hH (lv_sub hl [1, 2, 3, 4, 0] rfl)
set_option maxHeartbeats 4000000 in
set_option maxRecDepth 100000 in
theorem k_X1_grant (l : Launch) (D : va_G) (cI cZ : ClassId) (h : Nat) (r0 : Nat) (r1 : Nat) (r2 : Nat) (r3 : Nat) (k : Nat) (a3 : Nat) (f3 : Nat → Int32) (i : Nat) (n : Int32) (hi : i < 40) : fx_CV l D cI cZ yX1_grant wsX1_grant ({ frames := 1, cells := 0, slots := 0, locals := 22 }) [.ref h, .int (nI i), .int n] [(h, .inr (1, [.ref r0, .ref r1, .ref r2, .ref r3, .int (nI k)])), (r3, .inr (6, [.ref a3])), (a3, .inl (cI, 40, .inl f3))] (fun (u : (Nat → Int32)) => [(h, .inr (1, [.ref r0, .ref r1, .ref r2, .ref r3, .int (nI k)])), (r3, .inr (6, [.ref a3])), (a3, .inl (cI, 40, .inl u))]) (fun (u : (Nat → Int32)) => u = upd f3 i n) := by
  refine fx_CV.of (ws' := (wsX1_grant).tail) cX1_grant 3 (by decide) rfl (Nat.le_of_ble_eq_true rfl) ?_
  intro zp ze zs zm za zb zt zc zA ls zQ hQ hC hr hlk hnm hA hH hl
  have zx := hC.1.1
  have zy := hC.1.2.1
  have hl : lv_has ls 3 [(0, .ref h), (1, .int (nI i)), (2, .int n)] := hl
  refine lv_aload_n zx zy dX1_grant_0 rfl (lv_at hl 0 rfl) ?_
  refine fx_get (C := RX1) (T := TX1) (N := 5) hC (fun _ h => List.mem_cons_of_mem _ (List.mem_append_left _ (List.mem_append_right _ h))) hH 0 rfl rfl 3 (by decide) (by decide +kernel) rfl dX1_grant_1 ?_
  refine lv_iload_n zx zy dX1_grant_4 rfl (lv_at hl 1 rfl) ?_
  refine lv_iload_n zx zy dX1_grant_5 rfl (lv_at hl 2 rfl) ?_
  refine fx_cVv (n := 2) (As := [.int (nI i), .int n]) (b := r3) (rest := []) (fun (u : (Nat → Int32)) => [(h, .inr (1, [.ref r0, .ref r1, .ref r2, .ref r3, .int (nI k)])), (r3, .inr (6, [.ref a3])), (a3, .inl (cI, 40, .inl u))]) hC hA hH (k_X6_put l D cI cZ r3 a3 40 f3 (nI i) n (by first | assumption | omega)) [1, 2] [0] [0, 1, 2] [(h, .inr (1, [.ref r0, .ref r1, .ref r2, .ref r3, .int (nI k)]))] rfl rfl (by decide) (by decide) (fun _ => rfl) rfl gX1_grant_X6_put (by decide +kernel) ⟨Nat.le_of_ble_eq_true rfl, Nat.le_of_ble_eq_true rfl⟩ 0 rfl rfl rfl rfl rfl hl.1 (Nat.le_of_ble_eq_true rfl) ⟨Nat.le_of_ble_eq_true rfl, Nat.le_of_ble_eq_true rfl⟩ dX1_grant_6 (fun u H locs hw6 hH => ?_)
  obtain ⟨u2, rfl⟩ : ∃ z, z = u := ⟨_, rfl⟩
  obtain rfl : u2 = rPut 40 f3 (nI i) n := hw6
  have hH := (hH : fx_H zA zs.heap H locs D [(h, .inr (1, [.ref r0, .ref r1, .ref r2, .ref r3, .int (nI k)])), (r3, .inr (6, [.ref a3])), (a3, .inl (cI, 40, .inl (rPut 40 f3 (nI i) n)))])
  rw [show (rPut 40 f3 (nI i) n : Nat → Int32) = upd f3 i n from rPut_nI hi (by omega)] at hH
  exact fx_vret hQ hC hr hlk hH dX1_grant_9 (Nat.le_of_ble_eq_true rfl) (Nat.le_of_ble_eq_true rfl) (upd f3 i n) rfl (rfl)
set_option maxHeartbeats 4000000 in
set_option maxRecDepth 100000 in
theorem k_X1_forget (l : Launch) (D : va_G) (cI cZ : ClassId) (h : Nat) (r0 : Nat) (r1 : Nat) (r2 : Nat) (r3 : Nat) (k : Nat) : fx_CV l D cI cZ yX1_forget wsX1_forget ({ frames := 0, cells := 0, slots := 0, locals := 0 }) [.ref h] [(h, .inr (1, [.ref r0, .ref r1, .ref r2, .ref r3, .int (nI k)]))] (fun (u : (Nat)) => [(h, .inr (1, [.ref r0, .ref r1, .ref r2, .ref r3, .int (nI u)]))]) (fun (u : (Nat)) => u = 0) := by
  refine fx_CV.of (ws' := (wsX1_forget).tail) cX1_forget 1 (by decide) rfl (Nat.le_of_ble_eq_true rfl) ?_
  intro zp ze zs zm za zb zt zc zA ls zQ hQ hC hr hlk hnm hA hH hl
  have zx := hC.1.1
  have zy := hC.1.2.1
  have hl : lv_has ls 1 [(0, .ref h)] := hl
  refine lv_aload_n zx zy dX1_forget_0 rfl (lv_at hl 0 rfl) ?_
  refine lv_iconst (v := 0) zx zy dX1_forget_1 (by decide) ?_
  refine lv_topi (fun v1 ev1 => ?_)
  obtain rfl : v1 = nI 0 := ev1.trans (rfl)
  refine fx_put (C := RX1) (T := TX1) (N := 5) (ty := .int) (ws2 := [(h, .inr (1, [.ref r0, .ref r1, .ref r2, .ref r3, .int (nI 0)]))]) hC (fun _ h => List.mem_cons_of_mem _ (List.mem_append_right _ h)) tyX1_ok nmX1 hH 0 rfl rfl 4 (by decide) (by decide +kernel) rfl rfl rfl rfl (Nat.le_of_ble_eq_true rfl) rfl dX1_forget_2 (fun H locs hH => ?_)
  exact fx_vret hQ hC hr hlk hH dX1_forget_5 (Nat.le_of_ble_eq_true rfl) (Nat.le_of_ble_eq_true rfl) (0) rfl (rfl)
set_option maxHeartbeats 4000000 in
set_option maxRecDepth 100000 in
theorem k_X1_many (l : Launch) (D : va_G) (cI cZ : ClassId) (h : Nat) (r0 : Nat) (r1 : Nat) (r2 : Nat) (r3 : Nat) (k : Nat) : fx_CI l D cI cZ yX1_many wsX1_many ({ frames := 0, cells := 0, slots := 0, locals := 0 }) [.ref h] [(h, .inr (1, [.ref r0, .ref r1, .ref r2, .ref r3, .int (nI k)]))] (fun (u : Unit) => [(h, .inr (1, [.ref r0, .ref r1, .ref r2, .ref r3, .int (nI k)]))]) (fun (r : Int32) (u : Unit) => r = nI k) := by
  refine fx_CI.of (ws' := (wsX1_many).tail) cX1_many 1 (by decide) rfl (Nat.le_of_ble_eq_true rfl) ?_
  intro zp ze zs zm za zb zt zc zA ls zQ hQ hC hr hlk hA hH hl
  have zx := hC.1.1
  have zy := hC.1.2.1
  have hl : lv_has ls 1 [(0, .ref h)] := hl
  refine lv_aload_n zx zy dX1_many_0 rfl (lv_at hl 0 rfl) ?_
  refine fx_get (C := RX1) (T := TX1) (N := 5) hC (fun _ h => List.mem_cons_of_mem _ (List.mem_append_right _ h)) hH 0 rfl rfl 4 (by decide) (by decide +kernel) rfl dX1_many_1 ?_
  exact fx_iret (v := nI k) hQ hC hr hlk hH dX1_many_4 rfl (Nat.le_of_ble_eq_true rfl) (Nat.le_of_ble_eq_true rfl) (()) rfl (rfl)
set_option maxHeartbeats 4000000 in
set_option maxRecDepth 100000 in
theorem k_X1_who (l : Launch) (D : va_G) (cI cZ : ClassId) (h : Nat) (r0 : Nat) (r1 : Nat) (r2 : Nat) (r3 : Nat) (k : Nat) (a0 : Nat) (f0 : Nat → Int32) (i : Nat) (hi : i < 40) : fx_CI l D cI cZ yX1_who wsX1_who ({ frames := 1, cells := 0, slots := 0, locals := 21 }) [.ref h, .int (nI i)] [(h, .inr (1, [.ref r0, .ref r1, .ref r2, .ref r3, .int (nI k)])), (r0, .inr (6, [.ref a0])), (a0, .inl (cI, 40, .inl f0))] (fun (u : Unit) => [(h, .inr (1, [.ref r0, .ref r1, .ref r2, .ref r3, .int (nI k)])), (r0, .inr (6, [.ref a0])), (a0, .inl (cI, 40, .inl f0))]) (fun (r : Int32) (u : Unit) => r = f0 i) := by
  refine fx_CI.of (ws' := (wsX1_who).tail) cX1_who 2 (by decide) rfl (Nat.le_of_ble_eq_true rfl) ?_
  intro zp ze zs zm za zb zt zc zA ls zQ hQ hC hr hlk hA hH hl
  have zx := hC.1.1
  have zy := hC.1.2.1
  have hl : lv_has ls 2 [(0, .ref h), (1, .int (nI i))] := hl
  refine lv_aload_n zx zy dX1_who_0 rfl (lv_at hl 0 rfl) ?_
  refine fx_get (C := RX1) (T := TX1) (N := 5) hC (fun _ h => List.mem_cons_of_mem _ (List.mem_append_left _ (List.mem_append_right _ h))) hH 0 rfl rfl 0 (by decide) (by decide +kernel) rfl dX1_who_1 ?_
  refine lv_iload_n zx zy dX1_who_4 rfl (lv_at hl 1 rfl) ?_
  refine fx_cVi (n := 1) (As := [.int (nI i)]) (b := r0) (rest := []) (fun (u : Unit) => [(h, .inr (1, [.ref r0, .ref r1, .ref r2, .ref r3, .int (nI k)])), (r0, .inr (6, [.ref a0])), (a0, .inl (cI, 40, .inl f0))]) hC hA hH (k_X6_at l D cI cZ r0 a0 40 f0 (nI i) (by first | assumption | omega)) [1, 2] [0] [0, 1, 2] [(h, .inr (1, [.ref r0, .ref r1, .ref r2, .ref r3, .int (nI k)]))] rfl rfl (by decide) (by decide) (fun _ => rfl) rfl gX1_who_X6_at (by decide +kernel) ⟨Nat.le_of_ble_eq_true rfl, Nat.le_of_ble_eq_true rfl⟩ 0 rfl rfl rfl rfl rfl hl.1 (Nat.le_of_ble_eq_true rfl) ⟨Nat.le_of_ble_eq_true rfl, Nat.le_of_ble_eq_true rfl⟩ dX1_who_5 (fun r1 u H locs hw5 hH => ?_)
  obtain rfl : r1 = rAt 40 f0 (nI i) := hw5
  have hH := (hH : fx_H zA zs.heap H locs D [(h, .inr (1, [.ref r0, .ref r1, .ref r2, .ref r3, .int (nI k)])), (r0, .inr (6, [.ref a0])), (a0, .inl (cI, 40, .inl f0))])
  refine lv_topi (fun v2 ev2 => ?_)
  obtain rfl : v2 = f0 i := ev2.trans (rAt_nI hi (by omega))
  exact fx_iret (v := f0 i) hQ hC hr hlk hH dX1_who_8 rfl (Nat.le_of_ble_eq_true rfl) (Nat.le_of_ble_eq_true rfl) (()) rfl (rfl)
set_option maxHeartbeats 4000000 in
set_option maxRecDepth 100000 in
theorem k_X1_wanted (l : Launch) (D : va_G) (cI cZ : ClassId) (h : Nat) (r0 : Nat) (r1 : Nat) (r2 : Nat) (r3 : Nat) (k : Nat) (a1 : Nat) (f1 : Nat → Int32) (i : Nat) (hi : i < 40) : fx_CI l D cI cZ yX1_wanted wsX1_wanted ({ frames := 1, cells := 0, slots := 0, locals := 21 }) [.ref h, .int (nI i)] [(h, .inr (1, [.ref r0, .ref r1, .ref r2, .ref r3, .int (nI k)])), (r1, .inr (6, [.ref a1])), (a1, .inl (cI, 40, .inl f1))] (fun (u : Unit) => [(h, .inr (1, [.ref r0, .ref r1, .ref r2, .ref r3, .int (nI k)])), (r1, .inr (6, [.ref a1])), (a1, .inl (cI, 40, .inl f1))]) (fun (r : Int32) (u : Unit) => r = f1 i) := by
  refine fx_CI.of (ws' := (wsX1_wanted).tail) cX1_wanted 2 (by decide) rfl (Nat.le_of_ble_eq_true rfl) ?_
  intro zp ze zs zm za zb zt zc zA ls zQ hQ hC hr hlk hA hH hl
  have zx := hC.1.1
  have zy := hC.1.2.1
  have hl : lv_has ls 2 [(0, .ref h), (1, .int (nI i))] := hl
  refine lv_aload_n zx zy dX1_wanted_0 rfl (lv_at hl 0 rfl) ?_
  refine fx_get (C := RX1) (T := TX1) (N := 5) hC (fun _ h => List.mem_cons_of_mem _ (List.mem_append_left _ (List.mem_append_right _ h))) hH 0 rfl rfl 1 (by decide) (by decide +kernel) rfl dX1_wanted_1 ?_
  refine lv_iload_n zx zy dX1_wanted_4 rfl (lv_at hl 1 rfl) ?_
  refine fx_cVi (n := 1) (As := [.int (nI i)]) (b := r1) (rest := []) (fun (u : Unit) => [(h, .inr (1, [.ref r0, .ref r1, .ref r2, .ref r3, .int (nI k)])), (r1, .inr (6, [.ref a1])), (a1, .inl (cI, 40, .inl f1))]) hC hA hH (k_X6_at l D cI cZ r1 a1 40 f1 (nI i) (by first | assumption | omega)) [1, 2] [0] [0, 1, 2] [(h, .inr (1, [.ref r0, .ref r1, .ref r2, .ref r3, .int (nI k)]))] rfl rfl (by decide) (by decide) (fun _ => rfl) rfl gX1_wanted_X6_at (by decide +kernel) ⟨Nat.le_of_ble_eq_true rfl, Nat.le_of_ble_eq_true rfl⟩ 0 rfl rfl rfl rfl rfl hl.1 (Nat.le_of_ble_eq_true rfl) ⟨Nat.le_of_ble_eq_true rfl, Nat.le_of_ble_eq_true rfl⟩ dX1_wanted_5 (fun r1 u H locs hw5 hH => ?_)
  obtain rfl : r1 = rAt 40 f1 (nI i) := hw5
  have hH := (hH : fx_H zA zs.heap H locs D [(h, .inr (1, [.ref r0, .ref r1, .ref r2, .ref r3, .int (nI k)])), (r1, .inr (6, [.ref a1])), (a1, .inl (cI, 40, .inl f1))])
  refine lv_topi (fun v2 ev2 => ?_)
  obtain rfl : v2 = f1 i := ev2.trans (rAt_nI hi (by omega))
  exact fx_iret (v := f1 i) hQ hC hr hlk hH dX1_wanted_8 rfl (Nat.le_of_ble_eq_true rfl) (Nat.le_of_ble_eq_true rfl) (()) rfl (rfl)
set_option maxHeartbeats 4000000 in
set_option maxRecDepth 100000 in
theorem k_X1_price (l : Launch) (D : va_G) (cI cZ : ClassId) (h : Nat) (r0 : Nat) (r1 : Nat) (r2 : Nat) (r3 : Nat) (k : Nat) (a2 : Nat) (f2 : Nat → Int32) (i : Nat) (hi : i < 40) : fx_CI l D cI cZ yX1_price wsX1_price ({ frames := 1, cells := 0, slots := 0, locals := 21 }) [.ref h, .int (nI i)] [(h, .inr (1, [.ref r0, .ref r1, .ref r2, .ref r3, .int (nI k)])), (r2, .inr (6, [.ref a2])), (a2, .inl (cI, 40, .inl f2))] (fun (u : Unit) => [(h, .inr (1, [.ref r0, .ref r1, .ref r2, .ref r3, .int (nI k)])), (r2, .inr (6, [.ref a2])), (a2, .inl (cI, 40, .inl f2))]) (fun (r : Int32) (u : Unit) => r = f2 i) := by
  refine fx_CI.of (ws' := (wsX1_price).tail) cX1_price 2 (by decide) rfl (Nat.le_of_ble_eq_true rfl) ?_
  intro zp ze zs zm za zb zt zc zA ls zQ hQ hC hr hlk hA hH hl
  have zx := hC.1.1
  have zy := hC.1.2.1
  have hl : lv_has ls 2 [(0, .ref h), (1, .int (nI i))] := hl
  refine lv_aload_n zx zy dX1_price_0 rfl (lv_at hl 0 rfl) ?_
  refine fx_get (C := RX1) (T := TX1) (N := 5) hC (fun _ h => List.mem_cons_of_mem _ (List.mem_append_left _ (List.mem_append_right _ h))) hH 0 rfl rfl 2 (by decide) (by decide +kernel) rfl dX1_price_1 ?_
  refine lv_iload_n zx zy dX1_price_4 rfl (lv_at hl 1 rfl) ?_
  refine fx_cVi (n := 1) (As := [.int (nI i)]) (b := r2) (rest := []) (fun (u : Unit) => [(h, .inr (1, [.ref r0, .ref r1, .ref r2, .ref r3, .int (nI k)])), (r2, .inr (6, [.ref a2])), (a2, .inl (cI, 40, .inl f2))]) hC hA hH (k_X6_at l D cI cZ r2 a2 40 f2 (nI i) (by first | assumption | omega)) [1, 2] [0] [0, 1, 2] [(h, .inr (1, [.ref r0, .ref r1, .ref r2, .ref r3, .int (nI k)]))] rfl rfl (by decide) (by decide) (fun _ => rfl) rfl gX1_price_X6_at (by decide +kernel) ⟨Nat.le_of_ble_eq_true rfl, Nat.le_of_ble_eq_true rfl⟩ 0 rfl rfl rfl rfl rfl hl.1 (Nat.le_of_ble_eq_true rfl) ⟨Nat.le_of_ble_eq_true rfl, Nat.le_of_ble_eq_true rfl⟩ dX1_price_5 (fun r1 u H locs hw5 hH => ?_)
  obtain rfl : r1 = rAt 40 f2 (nI i) := hw5
  have hH := (hH : fx_H zA zs.heap H locs D [(h, .inr (1, [.ref r0, .ref r1, .ref r2, .ref r3, .int (nI k)])), (r2, .inr (6, [.ref a2])), (a2, .inl (cI, 40, .inl f2))])
  refine lv_topi (fun v2 ev2 => ?_)
  obtain rfl : v2 = f2 i := ev2.trans (rAt_nI hi (by omega))
  exact fx_iret (v := f2 i) hQ hC hr hlk hH dX1_price_8 rfl (Nat.le_of_ble_eq_true rfl) (Nat.le_of_ble_eq_true rfl) (()) rfl (rfl)
set_option maxHeartbeats 4000000 in
set_option maxRecDepth 100000 in
theorem k_X1_got (l : Launch) (D : va_G) (cI cZ : ClassId) (h : Nat) (r0 : Nat) (r1 : Nat) (r2 : Nat) (r3 : Nat) (k : Nat) (a3 : Nat) (f3 : Nat → Int32) (i : Nat) (hi : i < 40) : fx_CI l D cI cZ yX1_got wsX1_got ({ frames := 1, cells := 0, slots := 0, locals := 21 }) [.ref h, .int (nI i)] [(h, .inr (1, [.ref r0, .ref r1, .ref r2, .ref r3, .int (nI k)])), (r3, .inr (6, [.ref a3])), (a3, .inl (cI, 40, .inl f3))] (fun (u : Unit) => [(h, .inr (1, [.ref r0, .ref r1, .ref r2, .ref r3, .int (nI k)])), (r3, .inr (6, [.ref a3])), (a3, .inl (cI, 40, .inl f3))]) (fun (r : Int32) (u : Unit) => r = f3 i) := by
  refine fx_CI.of (ws' := (wsX1_got).tail) cX1_got 2 (by decide) rfl (Nat.le_of_ble_eq_true rfl) ?_
  intro zp ze zs zm za zb zt zc zA ls zQ hQ hC hr hlk hA hH hl
  have zx := hC.1.1
  have zy := hC.1.2.1
  have hl : lv_has ls 2 [(0, .ref h), (1, .int (nI i))] := hl
  refine lv_aload_n zx zy dX1_got_0 rfl (lv_at hl 0 rfl) ?_
  refine fx_get (C := RX1) (T := TX1) (N := 5) hC (fun _ h => List.mem_cons_of_mem _ (List.mem_append_left _ (List.mem_append_right _ h))) hH 0 rfl rfl 3 (by decide) (by decide +kernel) rfl dX1_got_1 ?_
  refine lv_iload_n zx zy dX1_got_4 rfl (lv_at hl 1 rfl) ?_
  refine fx_cVi (n := 1) (As := [.int (nI i)]) (b := r3) (rest := []) (fun (u : Unit) => [(h, .inr (1, [.ref r0, .ref r1, .ref r2, .ref r3, .int (nI k)])), (r3, .inr (6, [.ref a3])), (a3, .inl (cI, 40, .inl f3))]) hC hA hH (k_X6_at l D cI cZ r3 a3 40 f3 (nI i) (by first | assumption | omega)) [1, 2] [0] [0, 1, 2] [(h, .inr (1, [.ref r0, .ref r1, .ref r2, .ref r3, .int (nI k)]))] rfl rfl (by decide) (by decide) (fun _ => rfl) rfl gX1_got_X6_at (by decide +kernel) ⟨Nat.le_of_ble_eq_true rfl, Nat.le_of_ble_eq_true rfl⟩ 0 rfl rfl rfl rfl rfl hl.1 (Nat.le_of_ble_eq_true rfl) ⟨Nat.le_of_ble_eq_true rfl, Nat.le_of_ble_eq_true rfl⟩ dX1_got_5 (fun r1 u H locs hw5 hH => ?_)
  obtain rfl : r1 = rAt 40 f3 (nI i) := hw5
  have hH := (hH : fx_H zA zs.heap H locs D [(h, .inr (1, [.ref r0, .ref r1, .ref r2, .ref r3, .int (nI k)])), (r3, .inr (6, [.ref a3])), (a3, .inl (cI, 40, .inl f3))])
  refine lv_topi (fun v2 ev2 => ?_)
  obtain rfl : v2 = f3 i := ev2.trans (rAt_nI hi (by omega))
  exact fx_iret (v := f3 i) hQ hC hr hlk hH dX1_got_8 rfl (Nat.le_of_ble_eq_true rfl) (Nat.le_of_ble_eq_true rfl) (()) rfl (rfl)
