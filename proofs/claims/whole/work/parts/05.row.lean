theorem fx_le_of {a b : Nat} (h : nI a ≤ nI b) (hb : b < 2 ^ 31) (ha : a < 2 ^ 31) : a ≤ b := (nI_leI ha hb).mp h
theorem fx_lt_of {a b : Nat} (h : ¬ nI b ≤ nI a) (ha : a < 2 ^ 31) : a < b := Nat.lt_of_not_le (fun q => h (nI_le q ha))
theorem fx_m1 {a : Nat} (h : 0 < a) : nI a - 1 = nI (a - 1) := by
  obtain ⟨b, rfl⟩ : ∃ b, a = b + 1 := ⟨a - 1, by omega⟩
  exact nI_pred b
theorem fx_fill {g : Nat → Int32} {i : Nat} {x : Int32} (h : ∀ j, j < i → g j = x) : ∀ j, j < i + 1 → upd g i x j = x := by
  intro j hj
  by_cases e : j = i
  · rw [e]; exact pk_us
  · rw [pk_un e]; exact h j (by omega)
def rAt (n : Nat) (f : Nat → Int32) (i : Int32) : Int32 := if i < 0 ∨ n ≤ i.toNatClampNeg then 0 else f i.toNatClampNeg
def rPut (n : Nat) (f : Nat → Int32) (i x : Int32) : Nat → Int32 := if i < 0 ∨ n ≤ i.toNatClampNeg then f else upd f i.toNatClampNeg x
theorem r_in {i : Int32} {n : Nat} (h1 : ¬ i < 0) (h2 : ¬ nI n ≤ i) (hn : n < 2 ^ 31) : vp_in i n := by
  rcases pk_ix i hn with h | h | ⟨j, hj, rfl⟩
  · exact absurd h h1
  · exact absurd h h2
  · exact vp_in_nI hj hn
theorem r_ge {i : Int32} {n : Nat} (h1 : ¬ i < 0) (h2 : nI n ≤ i) (hn : n < 2 ^ 31) : n ≤ i.toNatClampNeg := by
  obtain ⟨j, hj, rfl⟩ := nI_of h1
  rw [nI_clamp hj]
  exact (nI_leI hn hj).mp h2
theorem rAt_a {n : Nat} {f : Nat → Int32} {i : Int32} (h : i < 0) : rAt n f i = 0 := if_pos (Or.inl h)
theorem rAt_b {n : Nat} {f : Nat → Int32} {i : Int32} (h1 : ¬ i < 0) (h2 : nI n ≤ i) (hn : n < 2 ^ 31) : rAt n f i = 0 := if_pos (Or.inr (r_ge h1 h2 hn))
theorem rAt_c {n : Nat} {f : Nat → Int32} {i : Int32} (h : vp_in i n) : rAt n f i = f i.toNatClampNeg := if_neg h
theorem rPut_a {n : Nat} {f : Nat → Int32} {i x : Int32} (h : i < 0) : rPut n f i x = f := if_pos (Or.inl h)
theorem rPut_b {n : Nat} {f : Nat → Int32} {i x : Int32} (h1 : ¬ i < 0) (h2 : nI n ≤ i) (hn : n < 2 ^ 31) : rPut n f i x = f := if_pos (Or.inr (r_ge h1 h2 hn))
theorem rPut_c {n : Nat} {f : Nat → Int32} {i x : Int32} (h : vp_in i n) : rPut n f i x = upd f i.toNatClampNeg x := if_neg h
theorem rAt_nI {n : Nat} {f : Nat → Int32} {k : Nat} (h : k < n) (hn : n < 2 ^ 31) : rAt n f (nI k) = f k := by
  rw [rAt_c (vp_in_nI h hn), nI_clamp (by omega)]
theorem rPut_nI {n : Nat} {f : Nat → Int32} {k : Nat} {x : Int32} (h : k < n) (hn : n < 2 ^ 31) : rPut n f (nI k) x = upd f k x := by
  rw [rPut_c (vp_in_nI h hn), nI_clamp (by omega)]
theorem rAt_m1 {n : Nat} {f : Nat → Int32} : rAt n f (-1) = 0 := rAt_a (by decide)
/-- the places above i and up to q hold what stood one place lower -/
def rSqL (f : Nat → Int32) (i q : Nat) : Nat → Int32 := fun j => if i < j ∧ j ≤ q then f (j - 1) else f j
def rSq (f : Nat → Int32) (p q : Nat) (x : Int32) : Nat → Int32 := fun j => if j = p then x else if p < j ∧ j ≤ q then f (j - 1) else f j
theorem rSqL_0 (f : Nat → Int32) (q : Nat) : rSqL f q q = f := by
  funext j
  exact if_neg (by omega)
theorem rSq_step {f : Nat → Int32} {i q : Nat} (n : Nat) (hn : n < 2 ^ 31) (h0 : 0 < i) (hi : i ≤ q) (hq : q < n) : rPut n (rSqL f i q) (nI i) (rAt n (rSqL f i q) (nI (i - 1))) = rSqL f (i - 1) q := by
  rw [rPut_nI (by omega) hn, rAt_nI (by omega) hn]
  funext j
  simp only [upd, rSqL]
  by_cases e : j = i
  · subst e
    rw [if_pos rfl, if_neg (by omega), if_pos ⟨by omega, by omega⟩]
  · rw [if_neg e]
    by_cases e2 : i < j ∧ j ≤ q
    · rw [if_pos e2, if_pos ⟨by omega, by omega⟩]
    · rw [if_neg e2, if_neg (by omega)]
theorem rSq_end {f : Nat → Int32} {p q : Nat} {x : Int32} (n : Nat) (hn : n < 2 ^ 31) (hpq : p ≤ q) (hq : q < n) : rPut n (rSqL f p q) (nI p) x = rSq f p q x := by
  rw [rPut_nI (by omega) hn]
  rfl
set_option maxHeartbeats 4000000 in
set_option maxRecDepth 100000 in
/-- Arrays.fill(a, x) -/
theorem k_J7_fill_53178 (l : Launch) (D : va_G) (cI cZ : ClassId) (a : Nat) (n : Nat) (f : Nat → Int32) (x : Int32) (hn : n < 2 ^ 31) : fx_CV l D cI cZ yJ7_fill_53178 wsJ7_fill_53178 ({ frames := 0, cells := 0, slots := 0, locals := 0 }) [.ref a, .int x] [(a, .inl (cI, n, .inl f))] (fun (u : (Nat → Int32)) => [(a, .inl (cI, n, .inl u))]) (fun (u : (Nat → Int32)) => ∀ j, j < n → u j = x) := by
  refine fx_CV.of (ws' := (wsJ7_fill_53178).tail) cJ7_fill_53178 4 (by decide) rfl (Nat.le_of_ble_eq_true rfl) ?_
  intro zp ze zs zm za zb zt zc zA ls zQ hQ hC hr hlk hnm hA hH hl
  have zx := hC.1.1
  have zy := hC.1.2.1
  have hl : lv_has ls 4 [(0, .ref a), (1, .int x)] := hl
  refine lv_iconst (v := 0) zx zy dJ7_fill_53178_0 (by decide) ?_
  refine lv_topi (fun v1 ev1 => ?_)
  obtain rfl : v1 = nI 0 := ev1.trans (rfl)
  refine lv_istore_n (lv' := [(2, .int (nI 0)), (0, .ref a), (1, .int x)]) zx zy dJ7_fill_53178_1 rfl hl (by decide) rfl (fun ls hl => ?_)
  refine lv_aload_n zx zy dJ7_fill_53178_2 rfl (lv_at hl 1 rfl) ?_
  refine fx_len (v := nI n) hC hH 0 rfl rfl dJ7_fill_53178_3 ?_
  refine lv_istore_n (lv' := [(3, .int (nI n)), (2, .int (nI 0)), (0, .ref a), (1, .int x)]) zx zy dJ7_fill_53178_4 rfl hl (by decide) rfl (fun ls hl => ?_)
  have L5 : ∀ (fu : Nat) (i : Nat) (g : Nat → Int32) (hi : i ≤ n) (hg : ∀ j, j < i → g j = x) (H : Heap) (locs : List Loc) (ls : Array Slot), n - i < fu → fx_H zA zs.heap H locs D [(a, .inl (cI, n, .inl g))] → lv_has ls 4 [(0, .ref a), (1, .int x), (2, .int (nI i)), (3, .int (nI n))] → W zp l ze ({ frames := 0, cells := 0, slots := 0, locals := 0 }) zs zm za zb zt zc H locs (0) (0) zQ (F0 zm 5 ls []) := by
    intro fu
    induction fu with
    | zero => intro i g hi hg H locs ls hfu; exact absurd hfu (Nat.not_lt_zero _)
    | succ fu ih5 =>
      intro i g hi hg H locs ls hfu5 hH hl
      refine lv_iload_n zx zy dJ7_fill_53178_5 rfl (lv_at hl 2 rfl) ?_
      refine lv_iload_n zx zy dJ7_fill_53178_6 rfl (lv_at hl 3 rfl) ?_
      refine lv_icmp_ge (tgt := 20) zx zy dJ7_fill_53178_7 (by decide) (fun c7 => ?_) (fun c7 => ?_)
      · skip
        exact fx_vret hQ hC hr hlk hH dJ7_fill_53178_20 (Nat.le_of_ble_eq_true rfl) (Nat.le_of_ble_eq_true rfl) (g) rfl (fun j hj => hg j (Nat.lt_of_lt_of_le hj (fx_le_of c7 (by omega) hn)))
      · skip
        have hlt : i < n := Nat.lt_of_not_le (fun h => c7 (nI_le h (by omega)))
        have hin : vp_in (nI i) n := vp_in_nI hlt hn
        refine lv_aload_n zx zy dJ7_fill_53178_10 rfl (lv_at hl 0 rfl) ?_
        refine lv_iload_n zx zy dJ7_fill_53178_11 rfl (lv_at hl 2 rfl) ?_
        refine lv_iload_n zx zy dJ7_fill_53178_12 rfl (lv_at hl 1 rfl) ?_
        refine fx_ist (ws2 := [(a, .inl (cI, n, .inl (upd g (nI i).toNatClampNeg x)))]) hC hH 0 rfl (by assumption) rfl dJ7_fill_53178_13 (fun H locs hH => ?_)
        rw [show (upd g (nI i).toNatClampNeg x : Nat → Int32) = upd g i x from by rw [nI_clamp (by omega)]] at hH
        refine lv_iinc (v := nI (i + 1)) (lv' := [(2, .int (nI (i + 1))), (0, .ref a), (1, .int x), (3, .int (nI n))]) zx zy dJ7_fill_53178_14 hl (k := 2) rfl (nI_1 _) (by decide) rfl (fun ls hl => ?_)
        refine lv_goto (tgt := 5) zx zy dJ7_fill_53178_17 (by decide) ?_
        exact ih5 (i + 1) (upd g i x) (by first | assumption | omega) (fx_fill hg) _ _ _ (by omega) hH (lv_sub hl [1, 2, 0, 3] rfl)
  exact L5 _ 0 f (by first | assumption | omega) (fun j h => absurd h (Nat.not_lt_zero j)) _ _ _ (Nat.lt_succ_self _) hH (lv_sub hl [2, 3, 1, 0] rfl)
set_option maxHeartbeats 4000000 in
set_option maxRecDepth 100000 in
/-- Row.at -/
theorem k_X6_at (l : Launch) (D : va_G) (cI cZ : ClassId) (h : Nat) (a : Nat) (n : Nat) (f : Nat → Int32) (i : Int32) (hn : n < 2 ^ 31) : fx_CI l D cI cZ yX6_at wsX6_at ({ frames := 0, cells := 0, slots := 0, locals := 0 }) [.ref h, .int i] [(h, .inr (6, [.ref a])), (a, .inl (cI, n, .inl f))] (fun (u : Unit) => [(h, .inr (6, [.ref a])), (a, .inl (cI, n, .inl f))]) (fun (r : Int32) (u : Unit) => r = rAt n f i) := by
  refine fx_CI.of (ws' := (wsX6_at).tail) cX6_at 2 (by decide) rfl (Nat.le_of_ble_eq_true rfl) ?_
  intro zp ze zs zm za zb zt zc zA ls zQ hQ hC hr hlk hA hH hl
  have zx := hC.1.1
  have zy := hC.1.2.1
  have hl : lv_has ls 2 [(0, .ref h), (1, .int i)] := hl
  refine lv_iload_n zx zy dX6_at_0 rfl (lv_at hl 1 rfl) ?_
  refine lv_if_lt (tgt := 22) zx zy dX6_at_1 (by decide) (fun c1 => ?_) (fun c1 => ?_)
  · skip
    refine lv_iconst (v := 0) zx zy dX6_at_22 (by decide) ?_
    exact fx_iret (v := 0) hQ hC hr hlk hH dX6_at_23 rfl (Nat.le_of_ble_eq_true rfl) (Nat.le_of_ble_eq_true rfl) (()) rfl (by first | exact (rAt_a c1).symm | exact (rAt_b c1 c10 hn).symm | exact (rAt_c (r_in c1 c10 hn)).symm)
  · skip
    refine lv_iload_n zx zy dX6_at_4 rfl (lv_at hl 1 rfl) ?_
    refine lv_aload_n zx zy dX6_at_5 rfl (lv_at hl 0 rfl) ?_
    refine fx_get (C := RX6) (T := TX6) (N := 1) hC (fun _ h => List.mem_cons_of_mem _ (List.mem_append_right _ h)) hH 0 rfl rfl 0 (by decide) (by decide +kernel) rfl dX6_at_6 ?_
    refine fx_len (v := nI n) hC hH 1 rfl rfl dX6_at_9 ?_
    refine lv_icmp_ge (tgt := 22) zx zy dX6_at_10 (by decide) (fun c10 => ?_) (fun c10 => ?_)
    · skip
      refine lv_iconst (v := 0) zx zy dX6_at_22 (by decide) ?_
      exact fx_iret (v := 0) hQ hC hr hlk hH dX6_at_23 rfl (Nat.le_of_ble_eq_true rfl) (Nat.le_of_ble_eq_true rfl) (()) rfl (by first | exact (rAt_a c1).symm | exact (rAt_b c1 c10 hn).symm | exact (rAt_c (r_in c1 c10 hn)).symm)
    · skip
      refine lv_aload_n zx zy dX6_at_13 rfl (lv_at hl 0 rfl) ?_
      refine fx_get (C := RX6) (T := TX6) (N := 1) hC (fun _ h => List.mem_cons_of_mem _ (List.mem_append_right _ h)) hH 0 rfl rfl 0 (by decide) (by decide +kernel) rfl dX6_at_14 ?_
      refine lv_iload_n zx zy dX6_at_17 rfl (lv_at hl 1 rfl) ?_
      refine fx_ild hC hH 1 rfl (r_in c1 c10 hn) dX6_at_18 ?_
      refine lv_goto (tgt := 23) zx zy dX6_at_19 (by decide) ?_
      exact fx_iret (v := f (i).toNatClampNeg) hQ hC hr hlk hH dX6_at_23 rfl (Nat.le_of_ble_eq_true rfl) (Nat.le_of_ble_eq_true rfl) (()) rfl (by first | exact (rAt_a c1).symm | exact (rAt_b c1 c10 hn).symm | exact (rAt_c (r_in c1 c10 hn)).symm)
set_option maxHeartbeats 4000000 in
set_option maxRecDepth 100000 in
/-- Row.put -/
theorem k_X6_put (l : Launch) (D : va_G) (cI cZ : ClassId) (h : Nat) (a : Nat) (n : Nat) (f : Nat → Int32) (i : Int32) (x : Int32) (hn : n < 2 ^ 31) : fx_CV l D cI cZ yX6_put wsX6_put ({ frames := 0, cells := 0, slots := 0, locals := 0 }) [.ref h, .int i, .int x] [(h, .inr (6, [.ref a])), (a, .inl (cI, n, .inl f))] (fun (u : (Nat → Int32)) => [(h, .inr (6, [.ref a])), (a, .inl (cI, n, .inl u))]) (fun (u : (Nat → Int32)) => u = rPut n f i x) := by
  refine fx_CV.of (ws' := (wsX6_put).tail) cX6_put 3 (by decide) rfl (Nat.le_of_ble_eq_true rfl) ?_
  intro zp ze zs zm za zb zt zc zA ls zQ hQ hC hr hlk hnm hA hH hl
  have zx := hC.1.1
  have zy := hC.1.2.1
  have hl : lv_has ls 3 [(0, .ref h), (1, .int i), (2, .int x)] := hl
  refine lv_iload_n zx zy dX6_put_0 rfl (lv_at hl 1 rfl) ?_
  refine lv_if_lt (tgt := 20) zx zy dX6_put_1 (by decide) (fun c1 => ?_) (fun c1 => ?_)
  · skip
    exact fx_vret hQ hC hr hlk hH dX6_put_20 (Nat.le_of_ble_eq_true rfl) (Nat.le_of_ble_eq_true rfl) (f) rfl (by first | exact (rPut_a c1).symm | exact (rPut_b c1 c10 hn).symm | exact (rPut_c (r_in c1 c10 hn)).symm)
  · skip
    refine lv_iload_n zx zy dX6_put_4 rfl (lv_at hl 1 rfl) ?_
    refine lv_aload_n zx zy dX6_put_5 rfl (lv_at hl 0 rfl) ?_
    refine fx_get (C := RX6) (T := TX6) (N := 1) hC (fun _ h => List.mem_cons_of_mem _ (List.mem_append_right _ h)) hH 0 rfl rfl 0 (by decide) (by decide +kernel) rfl dX6_put_6 ?_
    refine fx_len (v := nI n) hC hH 1 rfl rfl dX6_put_9 ?_
    refine lv_icmp_ge (tgt := 20) zx zy dX6_put_10 (by decide) (fun c10 => ?_) (fun c10 => ?_)
    · skip
      exact fx_vret hQ hC hr hlk hH dX6_put_20 (Nat.le_of_ble_eq_true rfl) (Nat.le_of_ble_eq_true rfl) (f) rfl (by first | exact (rPut_a c1).symm | exact (rPut_b c1 c10 hn).symm | exact (rPut_c (r_in c1 c10 hn)).symm)
    · skip
      refine lv_aload_n zx zy dX6_put_13 rfl (lv_at hl 0 rfl) ?_
      refine fx_get (C := RX6) (T := TX6) (N := 1) hC (fun _ h => List.mem_cons_of_mem _ (List.mem_append_right _ h)) hH 0 rfl rfl 0 (by decide) (by decide +kernel) rfl dX6_put_14 ?_
      refine lv_iload_n zx zy dX6_put_17 rfl (lv_at hl 1 rfl) ?_
      refine lv_iload_n zx zy dX6_put_18 rfl (lv_at hl 2 rfl) ?_
      refine fx_ist (ws2 := [(h, .inr (6, [.ref a])), (a, .inl (cI, n, .inl (upd f (i).toNatClampNeg x)))]) hC hH 1 rfl (r_in c1 c10 hn) rfl dX6_put_19 (fun H locs hH => ?_)
      exact fx_vret hQ hC hr hlk hH dX6_put_20 (Nat.le_of_ble_eq_true rfl) (Nat.le_of_ble_eq_true rfl) (upd f (i).toNatClampNeg x) rfl (by first | exact (rPut_a c1).symm | exact (rPut_b c1 c10 hn).symm | exact (rPut_c (r_in c1 c10 hn)).symm)
set_option maxHeartbeats 4000000 in
set_option maxRecDepth 100000 in
/-- Row.add -/
theorem k_X6_add (l : Launch) (D : va_G) (cI cZ : ClassId) (h : Nat) (a : Nat) (n : Nat) (f : Nat → Int32) (i : Int32) (x : Int32) (hn : n < 2 ^ 31) : fx_CV l D cI cZ yX6_add wsX6_add ({ frames := 1, cells := 0, slots := 0, locals := 22 }) [.ref h, .int i, .int x] [(h, .inr (6, [.ref a])), (a, .inl (cI, n, .inl f))] (fun (u : (Nat → Int32)) => [(h, .inr (6, [.ref a])), (a, .inl (cI, n, .inl u))]) (fun (u : (Nat → Int32)) => u = rPut n f i (rAt n f i + x)) := by
  refine fx_CV.of (ws' := (wsX6_add).tail) cX6_add 3 (by decide) rfl (Nat.le_of_ble_eq_true rfl) ?_
  intro zp ze zs zm za zb zt zc zA ls zQ hQ hC hr hlk hnm hA hH hl
  have zx := hC.1.1
  have zy := hC.1.2.1
  have hl : lv_has ls 3 [(0, .ref h), (1, .int i), (2, .int x)] := hl
  refine lv_aload_n zx zy dX6_add_0 rfl (lv_at hl 0 rfl) ?_
  refine lv_iload_n zx zy dX6_add_1 rfl (lv_at hl 1 rfl) ?_
  refine lv_aload_n zx zy dX6_add_2 rfl (lv_at hl 0 rfl) ?_
  refine lv_iload_n zx zy dX6_add_3 rfl (lv_at hl 1 rfl) ?_
  refine fx_cVi (n := 1) (As := [.int i]) (b := h) (rest := [.int i, .ref h]) (fun (u : Unit) => [(h, .inr (6, [.ref a])), (a, .inl (cI, n, .inl f))]) hC hA hH (k_X6_at l D cI cZ h a n f i (by first | assumption | omega)) [0, 1] [] [0, 1] [] rfl rfl (by decide) (by decide) (fun _ => rfl) rfl gX6_add_X6_at (by decide +kernel) ⟨Nat.le_of_ble_eq_true rfl, Nat.le_of_ble_eq_true rfl⟩ 0 rfl rfl rfl rfl rfl hl.1 (Nat.le_of_ble_eq_true rfl) ⟨Nat.le_of_ble_eq_true rfl, Nat.le_of_ble_eq_true rfl⟩ dX6_add_4 (fun r1 u H locs hw4 hH => ?_)
  obtain rfl : r1 = rAt n f i := hw4
  have hH := (hH : fx_H zA zs.heap H locs D [(h, .inr (6, [.ref a])), (a, .inl (cI, n, .inl f))])
  refine lv_iload_n zx zy dX6_add_7 rfl (lv_at hl 2 rfl) ?_
  refine lv_iadd zx zy dX6_add_8 ?_
  refine fx_cVv (n := 2) (As := [.int i, .int ((rAt n f i) + x)]) (b := h) (rest := []) (fun (u : (Nat → Int32)) => [(h, .inr (6, [.ref a])), (a, .inl (cI, n, .inl u))]) hC hA hH (k_X6_put l D cI cZ h a n f i ((rAt n f i) + x) (by first | assumption | omega)) [0, 1] [] [0, 1] [] rfl rfl (by decide) (by decide) (fun _ => rfl) rfl gX6_add_X6_put (by decide +kernel) ⟨Nat.le_of_ble_eq_true rfl, Nat.le_of_ble_eq_true rfl⟩ 0 rfl rfl rfl rfl rfl hl.1 (Nat.le_of_ble_eq_true rfl) ⟨Nat.le_of_ble_eq_true rfl, Nat.le_of_ble_eq_true rfl⟩ dX6_add_9 (fun u H locs hw9 hH => ?_)
  obtain ⟨u3, rfl⟩ : ∃ z, z = u := ⟨_, rfl⟩
  obtain rfl : u3 = rPut n f i ((rAt n f i) + x) := hw9
  have hH := (hH : fx_H zA zs.heap H locs D [(h, .inr (6, [.ref a])), (a, .inl (cI, n, .inl (rPut n f i ((rAt n f i) + x))))])
  exact fx_vret hQ hC hr hlk hH dX6_add_12 (Nat.le_of_ble_eq_true rfl) (Nat.le_of_ble_eq_true rfl) (rPut n f i ((rAt n f i) + x)) rfl (rfl)
set_option maxHeartbeats 4000000 in
set_option maxRecDepth 100000 in
/-- Row.squeeze -/
theorem k_X6_squeeze (l : Launch) (D : va_G) (cI cZ : ClassId) (h : Nat) (a : Nat) (n : Nat) (f : Nat → Int32) (p : Nat) (q : Nat) (x : Int32) (hn : n < 2 ^ 31) (hpq : p ≤ q) (hqn : q < n) : fx_CV l D cI cZ yX6_squeeze wsX6_squeeze ({ frames := 1, cells := 0, slots := 0, locals := 22 }) [.ref h, .int (nI p), .int (nI q), .int x] [(h, .inr (6, [.ref a])), (a, .inl (cI, n, .inl f))] (fun (u : (Nat → Int32)) => [(h, .inr (6, [.ref a])), (a, .inl (cI, n, .inl u))]) (fun (u : (Nat → Int32)) => u = rSq f p q x) := by
  refine fx_CV.of (ws' := (wsX6_squeeze).tail) cX6_squeeze 5 (by decide) rfl (Nat.le_of_ble_eq_true rfl) ?_
  intro zp ze zs zm za zb zt zc zA ls zQ hQ hC hr hlk hnm hA hH hl
  have zx := hC.1.1
  have zy := hC.1.2.1
  have hl : lv_has ls 5 [(0, .ref h), (1, .int (nI p)), (2, .int (nI q)), (3, .int x)] := hl
  refine lv_iload_n zx zy dX6_squeeze_0 rfl (lv_at hl 2 rfl) ?_
  refine lv_istore (lv' := [(4, .int (nI q)), (0, .ref h), (1, .int (nI p)), (2, .int (nI q)), (3, .int x)]) zx zy dX6_squeeze_1 hl (by decide) rfl (fun ls hl => ?_)
  have L3 : ∀ (fu : Nat) (i : Nat) (hpi : p ≤ i) (hiq : i ≤ q) (H : Heap) (locs : List Loc) (ls : Array Slot), i < fu → fx_H zA zs.heap H locs D [(h, .inr (6, [.ref a])), (a, .inl (cI, n, .inl (rSqL f i q)))] → lv_has ls 5 [(0, .ref h), (1, .int (nI p)), (2, .int (nI q)), (3, .int x), (4, .int (nI i))] → W zp l ze ({ frames := 1, cells := 0, slots := 0, locals := 22 }) zs zm za zb zt zc H locs (0) (0) zQ (F0 zm 3 ls []) := by
    intro fu
    induction fu with
    | zero => intro i hpi hiq H locs ls hfu; exact absurd hfu (Nat.not_lt_zero _)
    | succ fu ih3 =>
      intro i hpi hiq H locs ls hfu3 hH hl
      refine lv_iload zx zy dX6_squeeze_3 (lv_at hl 4 rfl) ?_
      refine lv_iload_n zx zy dX6_squeeze_5 rfl (lv_at hl 1 rfl) ?_
      refine lv_icmp_le (tgt := 29) zx zy dX6_squeeze_6 (by decide) (fun c6 => ?_) (fun c6 => ?_)
      · skip
        have hip : i = p := Nat.le_antisymm (fx_le_of c6 (by omega) (by omega)) hpi
        refine lv_aload_n zx zy dX6_squeeze_29 rfl (lv_at hl 0 rfl) ?_
        refine lv_iload_n zx zy dX6_squeeze_30 rfl (lv_at hl 1 rfl) ?_
        refine lv_iload_n zx zy dX6_squeeze_31 rfl (lv_at hl 3 rfl) ?_
        refine fx_cVv (n := 2) (As := [.int (nI p), .int x]) (b := h) (rest := []) (fun (u : (Nat → Int32)) => [(h, .inr (6, [.ref a])), (a, .inl (cI, n, .inl u))]) hC hA hH (k_X6_put l D cI cZ h a n (rSqL f i q) (nI p) x (by first | assumption | omega)) [0, 1] [] [0, 1] [] rfl rfl (by decide) (by decide) (fun _ => rfl) rfl gX6_squeeze_X6_put (by decide +kernel) ⟨Nat.le_of_ble_eq_true rfl, Nat.le_of_ble_eq_true rfl⟩ 0 rfl rfl rfl rfl rfl hl.1 (Nat.le_of_ble_eq_true rfl) ⟨Nat.le_of_ble_eq_true rfl, Nat.le_of_ble_eq_true rfl⟩ dX6_squeeze_32 (fun u H locs hw32 hH => ?_)
        obtain ⟨u2, rfl⟩ : ∃ z, z = u := ⟨_, rfl⟩
        obtain rfl : u2 = rPut n (rSqL f i q) (nI p) x := hw32
        have hH := (hH : fx_H zA zs.heap H locs D [(h, .inr (6, [.ref a])), (a, .inl (cI, n, .inl (rPut n (rSqL f i q) (nI p) x)))])
        exact fx_vret hQ hC hr hlk hH dX6_squeeze_35 (Nat.le_of_ble_eq_true rfl) (Nat.le_of_ble_eq_true rfl) (rPut n (rSqL f i q) (nI p) x) rfl (by rw [hip]; exact rSq_end n hn hpq hqn)
      · skip
        have hlt : p < i := Nat.lt_of_not_le (fun h => c6 (nI_le h (by omega)))
        refine lv_aload_n zx zy dX6_squeeze_9 rfl (lv_at hl 0 rfl) ?_
        refine lv_iload zx zy dX6_squeeze_10 (lv_at hl 4 rfl) ?_
        refine lv_aload_n zx zy dX6_squeeze_12 rfl (lv_at hl 0 rfl) ?_
        refine lv_iload zx zy dX6_squeeze_13 (lv_at hl 4 rfl) ?_
        refine lv_iconst (v := 1) zx zy dX6_squeeze_15 (by decide) ?_
        refine lv_isub zx zy dX6_squeeze_16 ?_
        refine lv_topi (fun v3 ev3 => ?_)
        obtain rfl : v3 = nI (i - 1) := ev3.trans (fx_m1 (by omega))
        refine fx_cVi (n := 1) (As := [.int (nI (i - 1))]) (b := h) (rest := [.int (nI i), .ref h]) (fun (u : Unit) => [(h, .inr (6, [.ref a])), (a, .inl (cI, n, .inl (rSqL f i q)))]) hC hA hH (k_X6_at l D cI cZ h a n (rSqL f i q) (nI (i - 1)) (by first | assumption | omega)) [0, 1] [] [0, 1] [] rfl rfl (by decide) (by decide) (fun _ => rfl) rfl gX6_squeeze_X6_at (by decide +kernel) ⟨Nat.le_of_ble_eq_true rfl, Nat.le_of_ble_eq_true rfl⟩ 0 rfl rfl rfl rfl rfl hl.1 (Nat.le_of_ble_eq_true rfl) ⟨Nat.le_of_ble_eq_true rfl, Nat.le_of_ble_eq_true rfl⟩ dX6_squeeze_17 (fun r4 u H locs hw17 hH => ?_)
        obtain rfl : r4 = rAt n (rSqL f i q) (nI (i - 1)) := hw17
        have hH := (hH : fx_H zA zs.heap H locs D [(h, .inr (6, [.ref a])), (a, .inl (cI, n, .inl (rSqL f i q)))])
        refine fx_cVv (n := 2) (As := [.int (nI i), .int (rAt n (rSqL f i q) (nI (i - 1)))]) (b := h) (rest := []) (fun (u : (Nat → Int32)) => [(h, .inr (6, [.ref a])), (a, .inl (cI, n, .inl u))]) hC hA hH (k_X6_put l D cI cZ h a n (rSqL f i q) (nI i) (rAt n (rSqL f i q) (nI (i - 1))) (by first | assumption | omega)) [0, 1] [] [0, 1] [] rfl rfl (by decide) (by decide) (fun _ => rfl) rfl gX6_squeeze_X6_put (by decide +kernel) ⟨Nat.le_of_ble_eq_true rfl, Nat.le_of_ble_eq_true rfl⟩ 0 rfl rfl rfl rfl rfl hl.1 (Nat.le_of_ble_eq_true rfl) ⟨Nat.le_of_ble_eq_true rfl, Nat.le_of_ble_eq_true rfl⟩ dX6_squeeze_20 (fun u H locs hw20 hH => ?_)
        obtain ⟨u6, rfl⟩ : ∃ z, z = u := ⟨_, rfl⟩
        obtain rfl : u6 = rPut n (rSqL f i q) (nI i) (rAt n (rSqL f i q) (nI (i - 1))) := hw20
        have hH := (hH : fx_H zA zs.heap H locs D [(h, .inr (6, [.ref a])), (a, .inl (cI, n, .inl (rPut n (rSqL f i q) (nI i) (rAt n (rSqL f i q) (nI (i - 1))))))])
        rw [show (rPut n (rSqL f i q) (nI i) (rAt n (rSqL f i q) (nI (i - 1))) : Nat → Int32) = rSqL f (i - 1) q from rSq_step n hn (by omega) hiq hqn] at hH
        refine lv_iinc (v := nI (i - 1)) (lv' := [(4, .int (nI (i - 1))), (0, .ref h), (1, .int (nI p)), (2, .int (nI q)), (3, .int x)]) zx zy dX6_squeeze_23 hl (k := 4) rfl (sb_m1 (by omega)) (by decide) rfl (fun ls hl => ?_)
        refine lv_goto (tgt := 3) zx zy dX6_squeeze_26 (by decide) ?_
        exact ih3 (i - 1) (by first | assumption | omega) (by first | assumption | omega) _ _ _ (by omega) hH (lv_sub hl [1, 2, 3, 4, 0] rfl)
  exact L3 _ q (by first | assumption | omega) (by first | assumption | omega) _ _ _ (Nat.lt_succ_self _) (by rw [rSqL_0]; exact hH) (lv_sub hl [1, 2, 3, 4, 0] rfl)
