theorem mx0 (n : Nat) (h : n < 2 ^ 31) : (if 0 < nI n then nI n else 0) = nI n := by
  rcases Nat.eq_zero_or_pos n with e | e
  · subst e; rfl
  · exact if_pos (nI_lt (a := 0) e h)
theorem cpy_in {f : Nat → Int32} {n : Nat} : ∀ j, j < n → va_cpy f (fun _ => 0) 0 0 n j = f j := fun j hj => (pk_cpy_in (Nat.zero_le _) (by omega)).trans (by simp)
set_option maxHeartbeats 4000000 in
set_option maxRecDepth 100000 in
theorem k_X6_init (l : Launch) (D : va_G) (cI cZ : ClassId) (h : Nat) (n : Nat) (x : Int32) (hn : n ≤ 4000) : fx_CV l D cI cZ yX6_init wsX6_init ({ frames := 1, cells := 1, slots := n, locals := 24 }) [.ref h, .int (nI n), .int x] [(h, .inr (6, [.null]))] (fun (u : (Nat) × (Nat → Int32)) => [(h, .inr (6, [.ref u.1])), (u.1, .inl (cI, n, .inl u.2))]) (fun (u : (Nat) × (Nat → Int32)) => ((∀ j, j < n → u.2 j = x))) := by
  refine fx_CV.of (ws' := (wsX6_init).tail) cX6_init 3 (by decide) rfl (Nat.le_of_ble_eq_true rfl) ?_
  intro zp ze zs zm za zb zt zc zA ls zQ hQ hC hr hlk hnm hA hH hl
  have zx := hC.1.1
  have zy := hC.1.2.1
  have hl : lv_has ls 3 [(0, .ref h), (1, .int (nI n)), (2, .int x)] := hl
  refine lv_aload_n zx zy dX6_init_0 rfl (lv_at hl 0 rfl) ?_
  refine W.objInit zx zy hC.1.2.2.2.1 (hC.1.2.2.2.2 (.methodLink RX6 1 objectInit) (by decide +kernel)) (hC.1.2.2.2.2 (.instanceMethod objectInit) (by decide +kernel)) (hC.1.2.2.2.2 _ (by decide +kernel)) rfl (by rw [hC.1.2.2.1]; exact hl.1) rfl dX6_init_1 (Nat.le_of_ble_eq_true rfl) (Nat.le_of_ble_eq_true rfl) ?_
  refine W.eq (g2 := F0 zm 4 ls []) rfl ?_
  refine lv_aload_n zx zy dX6_init_4 rfl (lv_at hl 0 rfl) ?_
  refine lv_iconst (v := 0) zx zy dX6_init_5 (by decide) ?_
  refine lv_iload_n zx zy dX6_init_6 rfl (lv_at hl 1 rfl) ?_
  refine fx_max hC hl.1 (by decide +kernel) (Nat.le_of_ble_eq_true rfl) (Nat.le_of_ble_eq_true rfl) (Nat.le_of_ble_eq_true rfl) (Nat.le_of_ble_eq_true rfl) dX6_init_7 ?_
  refine lv_topi (fun v1 ev1 => ?_)
  obtain rfl : v1 = nI n := ev1.trans (mx0 n (by omega))
  refine fx_newi (N' := n) hC hA hH (by decide +kernel) (nI_pos (by omega)) (nI_clamp (by omega)) (by omega) (Nat.le_of_ble_eq_true rfl) (by show 0 + n ≤ n; omega) dX6_init_10 (fun q2 H hH => ?_)
  have hH := (hH : fx_H zA zs.heap H _ D [(h, .inr (6, [.null])), (q2, .inl (cI, n, .inl (fun _ => 0)))])
  refine W.widen (k := 1) (n := n) (Nat.le_refl _) (by omega) ?_
  refine fx_put (C := RX6) (T := TX6) (N := 1) (ty := .array .int) (ws2 := [(h, .inr (6, [.ref q2])), (q2, .inl (cI, n, .inl (fun _ => 0)))]) hC (fun _ h => List.mem_cons_of_mem _ (List.mem_append_right _ h)) tyX6_ok nmX6 hH 0 rfl rfl 0 (by decide) (by decide +kernel) rfl rfl rfl rfl (Nat.le_of_ble_eq_true rfl) rfl dX6_init_12 (fun H locs hH => ?_)
  refine lv_aload_n zx zy dX6_init_15 rfl (lv_at hl 0 rfl) ?_
  refine fx_get (C := RX6) (T := TX6) (N := 1) hC (fun _ h => List.mem_cons_of_mem _ (List.mem_append_right _ h)) hH 0 rfl rfl 0 (by decide) (by decide +kernel) rfl dX6_init_16 ?_
  refine lv_iload_n zx zy dX6_init_19 rfl (lv_at hl 2 rfl) ?_
  refine fx_cSv (n := 2) (As := [.ref q2, .int x]) (rest := []) (fun (u : (Nat → Int32)) => [(h, .inr (6, [.ref q2])), (q2, .inl (cI, n, .inl u))]) hC hA hH (k_J7_fill_53178 l D cI cZ q2 n (fun _ => 0) x (by first | assumption | omega)) [1] [0] [0, 1] [(h, .inr (6, [.ref q2]))] rfl rfl (by decide) (by decide) (fun _ => rfl) rfl gX6_init_J7_fill_53178 (by decide +kernel) ⟨Nat.le_of_ble_eq_true rfl, Nat.le_of_ble_eq_true rfl⟩ rfl rfl hl.1 (Nat.le_of_ble_eq_true rfl) ⟨Nat.le_of_ble_eq_true rfl, Nat.le_refl _⟩ dX6_init_20 (fun u H locs hw20 hH => ?_)
  obtain ⟨u4, rfl⟩ : ∃ z, z = u := ⟨_, rfl⟩
  have hH := (hH : fx_H zA zs.heap H locs D [(h, .inr (6, [.ref q2])), (q2, .inl (cI, n, .inl u4))])
  exact fx_vret hQ hC hr hlk hH dX6_init_23 (Nat.le_of_ble_eq_true rfl) (by first | exact Nat.le_refl _ | (show n ≤ n; omega)) ((q2, u4)) rfl (hw20)
set_option maxHeartbeats 4000000 in
set_option maxRecDepth 100000 in
theorem k_J7_copyOf_59c91 (l : Launch) (D : va_G) (cI cZ : ClassId) (a : Nat) (n : Nat) (f : Nat → Int32) (L : Nat) (hL : n < L) (hL4 : L ≤ 4000) : fx_CR l D cI cZ yJ7_copyOf_59c91 wsJ7_copyOf_59c91 ({ frames := 1, cells := 1, slots := L, locals := 40 }) [.ref a, .int (nI L)] [(a, .inl (cI, n, .inl f))] (fun (u : Unit) (ra : Nat) => [(a, .inl (cI, n, .inl f)), (ra, .inl (cI, L, .inl (va_cpy f (fun _ => 0) 0 0 n)))]) (fun (u : Unit) => True) := by
  refine fx_CR.of (ws' := (wsJ7_copyOf_59c91).tail) cJ7_copyOf_59c91 3 (by decide) rfl (Nat.le_of_ble_eq_true rfl) ?_
  intro zp ze zs zm za zb zt zc zA ls zQ hQ hC hr hlk hA hH hl
  have zx := hC.1.1
  have zy := hC.1.2.1
  have hl : lv_has ls 3 [(0, .ref a), (1, .int (nI L))] := hl
  refine lv_iload_n zx zy dJ7_copyOf_59c91_0 rfl (lv_at hl 1 rfl) ?_
  refine lv_aload_n zx zy dJ7_copyOf_59c91_1 rfl (lv_at hl 0 rfl) ?_
  refine fx_len (v := nI n) hC hH 0 rfl rfl dJ7_copyOf_59c91_2 ?_
  refine lv_icmp_ne (tgt := 14) zx zy dJ7_copyOf_59c91_3 (by decide) (fun c3 => ?_) (fun c3 => ?_)
  · skip
    refine lv_iload_n zx zy dJ7_copyOf_59c91_14 rfl (lv_at hl 1 rfl) ?_
    refine fx_newi (N' := L) hC hA hH (by decide +kernel) (nI_pos (by omega)) (nI_clamp (by omega)) (by omega) (Nat.le_of_ble_eq_true rfl) (by show 0 + L ≤ L; omega) dJ7_copyOf_59c91_15 (fun q1 H hH => ?_)
    have hH := (hH : fx_H zA zs.heap H _ D [(a, .inl (cI, n, .inl f)), (q1, .inl (cI, L, .inl (fun _ => 0)))])
    refine W.widen (k := 1) (n := L) (Nat.le_refl _) (by omega) ?_
    refine lv_astore_n (lv' := [(2, .ref q1), (0, .ref a), (1, .int (nI L))]) zx zy dJ7_copyOf_59c91_17 rfl hl (by decide) rfl (fun ls hl => ?_)
    refine lv_aload_n zx zy dJ7_copyOf_59c91_18 rfl (lv_at hl 1 rfl) ?_
    refine lv_iconst (v := 0) zx zy dJ7_copyOf_59c91_19 (by decide) ?_
    refine lv_aload_n zx zy dJ7_copyOf_59c91_20 rfl (lv_at hl 0 rfl) ?_
    refine lv_iconst (v := 0) zx zy dJ7_copyOf_59c91_21 (by decide) ?_
    refine lv_aload_n zx zy dJ7_copyOf_59c91_22 rfl (lv_at hl 1 rfl) ?_
    refine fx_len (v := nI n) hC hH 0 rfl rfl dJ7_copyOf_59c91_23 ?_
    refine lv_iload_n zx zy dJ7_copyOf_59c91_24 rfl (lv_at hl 2 rfl) ?_
    refine fx_min hC hl.1 (by decide +kernel) (Nat.le_of_ble_eq_true rfl) (Nat.le_of_ble_eq_true rfl) (Nat.le_of_ble_eq_true rfl) (by first | exact Nat.zero_le _ | exact Nat.le_refl _ | (show L ≤ L; omega)) dJ7_copyOf_59c91_25 ?_
    refine lv_topi (fun v2 ev2 => ?_)
    obtain rfl : v2 = nI n := ev2.trans (if_neg (nI_nlt (by omega) (by omega)))
    refine fx_copy (ws2 := [(a, .inl (cI, n, .inl f)), (q1, .inl (cI, L, .inl (va_cpy f (fun _ => 0) (0 : Int32).toNatClampNeg (0 : Int32).toNatClampNeg (nI n).toNatClampNeg)))]) hC hl.1 (by decide +kernel) hH 0 1 rfl rfl (by decide) (by decide) (nI_pos (by omega)) (by rw [nI_clamp (by omega)]; show 0 + n ≤ n; omega) (by rw [nI_clamp (by omega)]; show 0 + n ≤ L; omega) (Nat.le_of_ble_eq_true rfl) (Nat.le_of_ble_eq_true rfl) rfl dJ7_copyOf_59c91_28 (fun H locs hH => ?_)
    rw [show (va_cpy f (fun _ => 0) (0 : Int32).toNatClampNeg (0 : Int32).toNatClampNeg (nI n).toNatClampNeg : Nat → Int32) = va_cpy f (fun _ => 0) 0 0 n from by rw [nI_clamp (by omega)]; rfl] at hH
    refine lv_aload_n zx zy dJ7_copyOf_59c91_31 rfl (lv_at hl 0 rfl) ?_
    exact fx_aret hQ hC hr hlk hH dJ7_copyOf_59c91_32 (Nat.le_refl _) (Nat.le_refl _) () rfl (trivial)
  · skip
    exact absurd ((nI_eq (by omega) (by omega)).mp c3) (by omega)
set_option maxHeartbeats 4000000 in
set_option maxRecDepth 100000 in
theorem k_X6_widen (l : Launch) (D : va_G) (cI cZ : ClassId) (h : Nat) (a : Nat) (n : Nat) (f : Nat → Int32) (L : Nat) (hL : n < L) (hL4 : L ≤ 4000) : fx_CV l D cI cZ yX6_widen wsX6_widen ({ frames := 2, cells := 1, slots := L, locals := 62 }) [.ref h, .int (nI L)] [(h, .inr (6, [.ref a])), (a, .inl (cI, n, .inl f))] (fun (u : (Nat) × (Nat → Int32)) => [(h, .inr (6, [.ref u.1])), (u.1, .inl (cI, L, .inl u.2))]) (fun (u : (Nat) × (Nat → Int32)) => ((∀ j, j < n → u.2 j = f j))) := by
  refine fx_CV.of (ws' := (wsX6_widen).tail) cX6_widen 2 (by decide) rfl (Nat.le_of_ble_eq_true rfl) ?_
  intro zp ze zs zm za zb zt zc zA ls zQ hQ hC hr hlk hnm hA hH hl
  have zx := hC.1.1
  have zy := hC.1.2.1
  have hl : lv_has ls 2 [(0, .ref h), (1, .int (nI L))] := hl
  refine lv_iload_n zx zy dX6_widen_0 rfl (lv_at hl 1 rfl) ?_
  refine lv_aload_n zx zy dX6_widen_1 rfl (lv_at hl 0 rfl) ?_
  refine fx_get (C := RX6) (T := TX6) (N := 1) hC (fun _ h => List.mem_cons_of_mem _ (List.mem_append_right _ h)) hH 0 rfl rfl 0 (by decide) (by decide +kernel) rfl dX6_widen_2 ?_
  refine fx_len (v := nI n) hC hH 1 rfl rfl dX6_widen_5 ?_
  refine lv_icmp_le (tgt := 21) zx zy dX6_widen_6 (by decide) (fun c6 => ?_) (fun c6 => ?_)
  · skip
    exact absurd (fx_le_of c6 (by omega) (by omega)) (by omega)
  · skip
    refine lv_aload_n zx zy dX6_widen_9 rfl (lv_at hl 0 rfl) ?_
    refine lv_aload_n zx zy dX6_widen_10 rfl (lv_at hl 0 rfl) ?_
    refine fx_get (C := RX6) (T := TX6) (N := 1) hC (fun _ h => List.mem_cons_of_mem _ (List.mem_append_right _ h)) hH 0 rfl rfl 0 (by decide) (by decide +kernel) rfl dX6_widen_11 ?_
    refine lv_iload_n zx zy dX6_widen_14 rfl (lv_at hl 1 rfl) ?_
    refine fx_cSr (n := 2) (As := [.ref a, .int (nI L)]) (rest := [.ref h]) (fun (u : Unit) (ra : Nat) => [(h, .inr (6, [.ref a])), (a, .inl (cI, n, .inl f)), (ra, .inl (cI, L, .inl (va_cpy f (fun _ => 0) 0 0 n)))]) hC hA hH (k_J7_copyOf_59c91 l D cI cZ a n f L (by first | assumption | omega) (by first | assumption | omega)) [1] [0] [0, 1, 2] [(h, .inr (6, [.ref a]))] rfl rfl (by decide) (by decide) (fun _ _ => rfl) rfl gX6_widen_J7_copyOf_59c91 (by decide +kernel) ⟨Nat.le_of_ble_eq_true rfl, Nat.le_of_ble_eq_true rfl⟩ rfl rfl hl.1 (Nat.le_of_ble_eq_true rfl) ⟨Nat.le_of_ble_eq_true rfl, by show 0 + L ≤ L; omega⟩ dX6_widen_15 (fun u r1 H locs hw15 hH => ?_)
    have hH := (hH : fx_H zA zs.heap H locs D [(h, .inr (6, [.ref a])), (a, .inl (cI, n, .inl f)), (r1, .inl (cI, L, .inl (va_cpy f (fun _ => 0) 0 0 n)))])
    refine W.widen (k := 1) (n := L) (Nat.le_refl _) (by show 0 + L ≤ L; omega) ?_
    refine fx_put (C := RX6) (T := TX6) (N := 1) (ty := .array .int) (ws2 := [(h, .inr (6, [.ref r1])), (a, .inl (cI, n, .inl f)), (r1, .inl (cI, L, .inl (va_cpy f (fun _ => 0) 0 0 n)))]) hC (fun _ h => List.mem_cons_of_mem _ (List.mem_append_right _ h)) tyX6_ok nmX6 hH 0 rfl rfl 0 (by decide) (by decide +kernel) rfl rfl rfl rfl (Nat.le_of_ble_eq_true rfl) rfl dX6_widen_18 (fun H locs hH => ?_)
    have hH := fx_H.re (ws2 := [(h, .inr (6, [.ref r1])), (r1, .inl (cI, L, .inl (va_cpy f (fun _ => 0) 0 0 n)))]) hH [0, 2] (by decide) rfl
    exact fx_vret hQ hC hr hlk hH dX6_widen_21 (Nat.le_of_ble_eq_true rfl) (by first | exact Nat.le_refl _ | (show L ≤ L; omega)) ((r1, va_cpy f (fun _ => 0) 0 0 n)) rfl (cpy_in)
