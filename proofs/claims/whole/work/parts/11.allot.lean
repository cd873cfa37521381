def fouA (f : Nat → Int32) (y : Nat) : Nat → Int32
  | 0 => 0
  | w + 1 => fouA f y w + fouV f w y
/-- the first i places hold g -/
def preF (f g : Nat → Int32) (i : Nat) : Nat → Int32 := fun j => if j < i then g j else f j
theorem preF_0 (f g : Nat → Int32) : preF f g 0 = f := by funext j; exact if_neg (by omega)
theorem preF_put {n : Nat} {f g : Nat → Int32} {i : Nat} {v : Int32} (hi : i < n) (hn : n < 2 ^ 31) (hv : v = g i) : rPut n (preF f g i) (nI i) v = preF f g (i + 1) := by
  rw [rPut_nI hi hn, hv]
  funext j
  simp only [upd, preF]
  by_cases e : j = i
  · subst e; rw [if_pos rfl, if_pos (by omega)]
  · rw [if_neg e]
    by_cases e2 : j < i
    · rw [if_pos e2, if_pos (by omega)]
    · rw [if_neg e2, if_neg (by omega)]
theorem preF_at {n : Nat} {f g : Nat → Int32} {i j : Nat} (hi : i < n) (hn : n < 2 ^ 31) (hj : i < j) : rAt n (preF f g j) (nI i) = g i := by
  rw [rAt_nI hi hn]
  exact if_pos hj
def mcB (c : Nat → Int32) : Nat → Nat
  | 0 => 0
  | w + 1 => if c w ≤ c (mcB c w) then mcB c w else w
theorem mcB_1 (c : Nat → Int32) : mcB c 1 = 0 := if_pos (Int32.le_refl _)
theorem mcB_lt (c : Nat → Int32) : ∀ w, 0 < w → mcB c w < w
  | 0, h => absurd h (by omega)
  | w + 1, _ => by
    unfold mcB
    split
    · rcases Nat.eq_zero_or_pos w with e | e
      · subst e; exact Nat.lt_succ_of_le (Nat.le_refl 0)
      · have := mcB_lt c w e; omega
    · omega
def grG (wk : Nat) (tg : Int32) : Nat → Int32 → (Nat → Int32) → (Nat → Int32) → Int32 × (Nat → Int32) × (Nat → Int32)
  | 0, g, p, c => (g, p, c)
  | fu + 1, g, p, c => if tg ≤ g then (g, p, c) else grG wk tg fu (g + 1) (upd p (mcB c wk) (p (mcB c wk) + 1)) (upd c (mcB c wk) (-1))
theorem grG_s {wk i : Nat} {tg g : Int32} {p c : Nat → Int32} (hi : i < wk) (h : ¬ tg ≤ g) : grG wk tg (wk - i) g p c = grG wk tg (wk - (i + 1)) (g + 1) (upd p (mcB c wk) (p (mcB c wk) + 1)) (upd c (mcB c wk) (-1)) := by
  obtain ⟨e, h2⟩ : ∃ e, wk - i = e + 1 := ⟨wk - i - 1, by omega⟩
  rw [h2, show wk - (i + 1) = e by omega]
  exact if_neg h
theorem grG_e {wk fu : Nat} {tg g : Int32} {p c : Nat → Int32} (h : tg ≤ g ∨ fu = 0) : grG wk tg fu g p c = (g, p, c) := by
  cases fu with
  | zero => rfl
  | succ e => exact if_pos (h.resolve_right (by omega))
def shP (tg al : Int32) (fb : Nat → Int32) (j : Nat) : Int32 := if al ≤ 0 then 0 else tg * fb j / al
def shC (tg al : Int32) (fb : Nat → Int32) (j : Nat) : Int32 := if al ≤ 0 then 0 else tg * fb j - tg * fb j / al * al
def shS (P : Nat → Int32) : Nat → Int32
  | 0 => 0
  | i + 1 => shS P i + P i
/-- what is given to each works, by what it fouled in the year y -/
def shG (fm : Nat → Int32) (y wk : Nat) (tg : Int32) (f1 f2 : Nat → Int32) : Int32 × (Nat → Int32) × (Nat → Int32) :=
  grG wk tg wk (shS (shP tg (fouA fm y wk) (fun j => fouV fm j y)) wk) (preF f1 (shP tg (fouA fm y wk) (fun j => fouV fm j y)) wk) (preF f2 (shC tg (fouA fm y wk) (fun j => fouV fm j y)) wk)
set_option maxHeartbeats 4000000 in
set_option maxRecDepth 100000 in
theorem k_X0_partOf (l : Launch) (D : va_G) (cI cZ : ClassId) (h : Nat) (r0 : Nat) (r1 : Nat) (r2 : Nat) (a1 : Nat) (f1 : Nat → Int32) (w : Nat) (hw : w < 10) : fx_CI l D cI cZ yX0_partOf wsX0_partOf ({ frames := 1, cells := 0, slots := 0, locals := 21 }) [.ref h, .int (nI w)] [(h, .inr (0, [.ref r0, .ref r1, .ref r2])), (r1, .inr (6, [.ref a1])), (a1, .inl (cI, 10, .inl f1))] (fun (u : Unit) => [(h, .inr (0, [.ref r0, .ref r1, .ref r2])), (r1, .inr (6, [.ref a1])), (a1, .inl (cI, 10, .inl f1))]) (fun (r : Int32) (u : Unit) => r = f1 w) := by
  refine fx_CI.of (ws' := (wsX0_partOf).tail) cX0_partOf 2 (by decide) rfl (Nat.le_of_ble_eq_true rfl) ?_
  intro zp ze zs zm za zb zt zc zA ls zQ hQ hC hr hlk hA hH hl
  have zx := hC.1.1
  have zy := hC.1.2.1
  have hl : lv_has ls 2 [(0, .ref h), (1, .int (nI w))] := hl
  refine lv_aload_n zx zy dX0_partOf_0 rfl (lv_at hl 0 rfl) ?_
  refine fx_get (C := RX0) (T := TX0) (N := 3) hC (fun _ h => List.mem_cons_of_mem _ (List.mem_append_left _ (List.mem_append_right _ h))) hH 0 rfl rfl 1 (by decide) (by decide +kernel) rfl dX0_partOf_1 ?_
  refine lv_iload_n zx zy dX0_partOf_4 rfl (lv_at hl 1 rfl) ?_
  refine fx_cVi (n := 1) (As := [.int (nI w)]) (b := r1) (rest := []) (fun (u : Unit) => [(h, .inr (0, [.ref r0, .ref r1, .ref r2])), (r1, .inr (6, [.ref a1])), (a1, .inl (cI, 10, .inl f1))]) hC hA hH (k_X6_at l D cI cZ r1 a1 10 f1 (nI w) (by first | assumption | omega)) [1, 2] [0] [0, 1, 2] [(h, .inr (0, [.ref r0, .ref r1, .ref r2]))] rfl rfl (by decide) (by decide) (fun _ => rfl) rfl gX0_partOf_X6_at (by decide +kernel) ⟨Nat.le_of_ble_eq_true rfl, Nat.le_of_ble_eq_true rfl⟩ 0 rfl rfl rfl rfl rfl hl.1 (Nat.le_of_ble_eq_true rfl) ⟨Nat.le_of_ble_eq_true rfl, Nat.le_of_ble_eq_true rfl⟩ dX0_partOf_5 (fun r1 u H locs hw5 hH => ?_)
  obtain rfl : r1 = rAt 10 f1 (nI w) := hw5
  have hH := (hH : fx_H zA zs.heap H locs D [(h, .inr (0, [.ref r0, .ref r1, .ref r2])), (r1, .inr (6, [.ref a1])), (a1, .inl (cI, 10, .inl f1))])
  refine lv_topi (fun v2 ev2 => ?_)
  obtain rfl : v2 = f1 w := ev2.trans (rAt_nI hw (by omega))
  exact fx_iret (v := f1 w) hQ hC hr hlk hH dX0_partOf_8 rfl (Nat.le_of_ble_eq_true rfl) (Nat.le_of_ble_eq_true rfl) (()) rfl (rfl)
set_option maxHeartbeats 4000000 in
set_option maxRecDepth 100000 in
theorem k_X0_look (l : Launch) (D : va_G) (cI cZ : ClassId) (h : Nat) (r0 : Nat) (r1 : Nat) (r2 : Nat) (a0 : Nat) (f0 : Nat → Int32) (hm : Nat) (rm : Nat) (am : Nat) (fm : Nat → Int32) (wk : Nat) (y : Nat) (hwk : wk ≤ 10) (hy : y < 20) : fx_CI l D cI cZ yX0_look wsX0_look ({ frames := 4, cells := 0, slots := 0, locals := 97 }) [.ref h, .ref hm, .int (nI wk), .int (nI y)] [(h, .inr (0, [.ref r0, .ref r1, .ref r2])), (r0, .inr (6, [.ref a0])), (a0, .inl (cI, 10, .inl f0)), (hm, .inr (4, [.ref rm])), (rm, .inr (6, [.ref am])), (am, .inl (cI, 800, .inl fm))] (fun (u : (Nat → Int32)) => [(h, .inr (0, [.ref r0, .ref r1, .ref r2])), (r0, .inr (6, [.ref a0])), (a0, .inl (cI, 10, .inl u)), (hm, .inr (4, [.ref rm])), (rm, .inr (6, [.ref am])), (am, .inl (cI, 800, .inl fm))]) (fun (r : Int32) (u : (Nat → Int32)) => r = fouA fm y wk ∧ u = preF f0 (fun j => fouV fm j y) wk) := by
  refine fx_CI.of (ws' := (wsX0_look).tail) cX0_look 6 (by decide) rfl (Nat.le_of_ble_eq_true rfl) ?_
  intro zp ze zs zm za zb zt zc zA ls zQ hQ hC hr hlk hA hH hl
  have zx := hC.1.1
  have zy := hC.1.2.1
  have hl : lv_has ls 6 [(0, .ref h), (1, .ref hm), (2, .int (nI wk)), (3, .int (nI y))] := hl
  refine lv_iconst (v := 0) zx zy dX0_look_0 (by decide) ?_
  refine lv_istore (lv' := [(4, .int 0), (0, .ref h), (1, .ref hm), (2, .int (nI wk)), (3, .int (nI y))]) zx zy dX0_look_1 hl (by decide) rfl (fun ls hl => ?_)
  refine lv_iconst (v := 0) zx zy dX0_look_3 (by decide) ?_
  refine lv_topi (fun v1 ev1 => ?_)
  obtain rfl : v1 = nI 0 := ev1.trans (rfl)
  refine lv_istore (lv' := [(5, .int (nI 0)), (4, .int 0), (0, .ref h), (1, .ref hm), (2, .int (nI wk)), (3, .int (nI y))]) zx zy dX0_look_4 hl (by decide) rfl (fun ls hl => ?_)
  have L6 : ∀ (fu : Nat) (i : Nat) (al : Int32) (hi : i ≤ wk) (hal : al = fouA fm y i) (H : Heap) (locs : List Loc) (ls : Array Slot), wk - i < fu → fx_H zA zs.heap H locs D [(h, .inr (0, [.ref r0, .ref r1, .ref r2])), (r0, .inr (6, [.ref a0])), (a0, .inl (cI, 10, .inl (preF f0 (fun j => fouV fm j y) i))), (hm, .inr (4, [.ref rm])), (rm, .inr (6, [.ref am])), (am, .inl (cI, 800, .inl fm))] → lv_has ls 6 [(0, .ref h), (1, .ref hm), (2, .int (nI wk)), (3, .int (nI y)), (4, .int al), (5, .int (nI i))] → W zp l ze ({ frames := 4, cells := 0, slots := 0, locals := 97 }) zs zm za zb zt zc H locs (0) (0) zQ (F0 zm 6 ls []) := by
    intro fu
    induction fu with
    | zero => intro i al hi hal H locs ls hfu; exact absurd hfu (Nat.not_lt_zero _)
    | succ fu ih6 =>
      intro i al hi hal H locs ls hfu6 hH hl
      refine lv_iload zx zy dX0_look_6 (lv_at hl 5 rfl) ?_
      refine lv_iload_n zx zy dX0_look_8 rfl (lv_at hl 2 rfl) ?_
      refine lv_icmp_ge (tgt := 48) zx zy dX0_look_9 (by decide) (fun c9 => ?_) (fun c9 => ?_)
      · skip
        refine lv_iload zx zy dX0_look_48 (lv_at hl 4 rfl) ?_
        exact fx_iret (v := al) hQ hC hr hlk hH dX0_look_50 rfl (Nat.le_of_ble_eq_true rfl) (Nat.le_of_ble_eq_true rfl) (preF f0 (fun j => fouV fm j y) i) rfl (by rw [hal, Nat.le_antisymm hi (fx_le_of c9 (by omega) (by omega))]; exact ⟨rfl, rfl⟩)
      · skip
        have hlt : i < wk := fx_lt_of c9 (by omega)
        refine lv_aload_n zx zy dX0_look_12 rfl (lv_at hl 0 rfl) ?_
        refine fx_get (C := RX0) (T := TX0) (N := 3) hC (fun _ h => List.mem_cons_of_mem _ (List.mem_append_left _ (List.mem_append_left _ (List.mem_append_right _ h)))) hH 0 rfl rfl 0 (by decide) (by decide +kernel) rfl dX0_look_13 ?_
        refine lv_iload zx zy dX0_look_16 (lv_at hl 5 rfl) ?_
        refine lv_aload_n zx zy dX0_look_18 rfl (lv_at hl 1 rfl) ?_
        refine lv_iload zx zy dX0_look_19 (lv_at hl 5 rfl) ?_
        refine lv_iload_n zx zy dX0_look_21 rfl (lv_at hl 3 rfl) ?_
        refine fx_cVi (n := 2) (As := [.int (nI i), .int (nI y)]) (b := hm) (rest := [.int (nI i), .ref r0]) (fun (u : Unit) => [(h, .inr (0, [.ref r0, .ref r1, .ref r2])), (r0, .inr (6, [.ref a0])), (a0, .inl (cI, 10, .inl (preF f0 (fun j => fouV fm j y) i))), (hm, .inr (4, [.ref rm])), (rm, .inr (6, [.ref am])), (am, .inl (cI, 800, .inl fm))]) hC hA hH (k_X4_fouledIn l D cI cZ hm rm am fm i y (by first | assumption | omega) (by first | assumption | omega)) [3, 4, 5] [0, 1, 2] [0, 1, 2, 3, 4, 5] [(h, .inr (0, [.ref r0, .ref r1, .ref r2])), (r0, .inr (6, [.ref a0])), (a0, .inl (cI, 10, .inl (preF f0 (fun j => fouV fm j y) i)))] rfl rfl (by decide) (by decide) (fun _ => rfl) rfl gX0_look_X4_fouledIn (by decide +kernel) ⟨Nat.le_of_ble_eq_true rfl, Nat.le_of_ble_eq_true rfl⟩ 0 rfl rfl rfl rfl rfl hl.1 (Nat.le_of_ble_eq_true rfl) ⟨Nat.le_of_ble_eq_true rfl, Nat.le_of_ble_eq_true rfl⟩ dX0_look_22 (fun r2 u H locs hw22 hH => ?_)
        obtain rfl : r2 = fouV fm i y := hw22
        have hH := (hH : fx_H zA zs.heap H locs D [(h, .inr (0, [.ref r0, .ref r1, .ref r2])), (r0, .inr (6, [.ref a0])), (a0, .inl (cI, 10, .inl (preF f0 (fun j => fouV fm j y) i))), (hm, .inr (4, [.ref rm])), (rm, .inr (6, [.ref am])), (am, .inl (cI, 800, .inl fm))])
        refine fx_cVv (n := 2) (As := [.int (nI i), .int (fouV fm i y)]) (b := r0) (rest := []) (fun (u : (Nat → Int32)) => [(h, .inr (0, [.ref r0, .ref r1, .ref r2])), (r0, .inr (6, [.ref a0])), (a0, .inl (cI, 10, .inl u)), (hm, .inr (4, [.ref rm])), (rm, .inr (6, [.ref am])), (am, .inl (cI, 800, .inl fm))]) hC hA hH (k_X6_put l D cI cZ r0 a0 10 (preF f0 (fun j => fouV fm j y) i) (nI i) (fouV fm i y) (by first | assumption | omega)) [1, 2] [0, 3, 4, 5] [0, 4, 5, 1, 2, 3] [(h, .inr (0, [.ref r0, .ref r1, .ref r2])), (hm, .inr (4, [.ref rm])), (rm, .inr (6, [.ref am])), (am, .inl (cI, 800, .inl fm))] rfl rfl (by decide) (by decide) (fun _ => rfl) rfl gX0_look_X6_put (by decide +kernel) ⟨Nat.le_of_ble_eq_true rfl, Nat.le_of_ble_eq_true rfl⟩ 0 rfl rfl rfl rfl rfl hl.1 (Nat.le_of_ble_eq_true rfl) ⟨Nat.le_of_ble_eq_true rfl, Nat.le_of_ble_eq_true rfl⟩ dX0_look_25 (fun u H locs hw25 hH => ?_)
        obtain ⟨u4, rfl⟩ : ∃ z, z = u := ⟨_, rfl⟩
        obtain rfl : u4 = rPut 10 (preF f0 (fun j => fouV fm j y) i) (nI i) (fouV fm i y) := hw25
        have hH := (hH : fx_H zA zs.heap H locs D [(h, .inr (0, [.ref r0, .ref r1, .ref r2])), (r0, .inr (6, [.ref a0])), (a0, .inl (cI, 10, .inl (rPut 10 (preF f0 (fun j => fouV fm j y) i) (nI i) (fouV fm i y)))), (hm, .inr (4, [.ref rm])), (rm, .inr (6, [.ref am])), (am, .inl (cI, 800, .inl fm))])
        rw [show (rPut 10 (preF f0 (fun j => fouV fm j y) i) (nI i) (fouV fm i y) : Nat → Int32) = preF f0 (fun j => fouV fm j y) (i + 1) from preF_put (by omega) (by omega) rfl] at hH
        refine lv_iload zx zy dX0_look_28 (lv_at hl 4 rfl) ?_
        refine lv_aload_n zx zy dX0_look_30 rfl (lv_at hl 0 rfl) ?_
        refine fx_get (C := RX0) (T := TX0) (N := 3) hC (fun _ h => List.mem_cons_of_mem _ (List.mem_append_left _ (List.mem_append_left _ (List.mem_append_right _ h)))) hH 0 rfl rfl 0 (by decide) (by decide +kernel) rfl dX0_look_31 ?_
        refine lv_iload zx zy dX0_look_34 (lv_at hl 5 rfl) ?_
        refine fx_cVi (n := 1) (As := [.int (nI i)]) (b := r0) (rest := [.int al]) (fun (u : Unit) => [(h, .inr (0, [.ref r0, .ref r1, .ref r2])), (r0, .inr (6, [.ref a0])), (a0, .inl (cI, 10, .inl (preF f0 (fun j => fouV fm j y) (i + 1)))), (hm, .inr (4, [.ref rm])), (rm, .inr (6, [.ref am])), (am, .inl (cI, 800, .inl fm))]) hC hA hH (k_X6_at l D cI cZ r0 a0 10 (preF f0 (fun j => fouV fm j y) (i + 1)) (nI i) (by first | assumption | omega)) [1, 2] [0, 3, 4, 5] [0, 4, 5, 1, 2, 3] [(h, .inr (0, [.ref r0, .ref r1, .ref r2])), (hm, .inr (4, [.ref rm])), (rm, .inr (6, [.ref am])), (am, .inl (cI, 800, .inl fm))] rfl rfl (by decide) (by decide) (fun _ => rfl) rfl gX0_look_X6_at (by decide +kernel) ⟨Nat.le_of_ble_eq_true rfl, Nat.le_of_ble_eq_true rfl⟩ 0 rfl rfl rfl rfl rfl hl.1 (Nat.le_of_ble_eq_true rfl) ⟨Nat.le_of_ble_eq_true rfl, Nat.le_of_ble_eq_true rfl⟩ dX0_look_36 (fun r5 u H locs hw36 hH => ?_)
        obtain rfl : r5 = rAt 10 (preF f0 (fun j => fouV fm j y) (i + 1)) (nI i) := hw36
        have hH := (hH : fx_H zA zs.heap H locs D [(h, .inr (0, [.ref r0, .ref r1, .ref r2])), (r0, .inr (6, [.ref a0])), (a0, .inl (cI, 10, .inl (preF f0 (fun j => fouV fm j y) (i + 1)))), (hm, .inr (4, [.ref rm])), (rm, .inr (6, [.ref am])), (am, .inl (cI, 800, .inl fm))])
        refine lv_topi (fun v6 ev6 => ?_)
        obtain rfl : v6 = fouV fm i y := ev6.trans (preF_at (by omega) (by omega) (by omega))
        refine lv_iadd zx zy dX0_look_39 ?_
        refine lv_istore (lv' := [(4, .int (al + (fouV fm i y))), (0, .ref h), (1, .ref hm), (2, .int (nI wk)), (3, .int (nI y)), (5, .int (nI i))]) zx zy dX0_look_40 hl (by decide) rfl (fun ls hl => ?_)
        refine lv_iinc (v := nI (i + 1)) (lv' := [(5, .int (nI (i + 1))), (4, .int (al + (fouV fm i y))), (0, .ref h), (1, .ref hm), (2, .int (nI wk)), (3, .int (nI y))]) zx zy dX0_look_42 hl (k := 5) rfl (nI_1 _) (by decide) rfl (fun ls hl => ?_)
        refine lv_goto (tgt := 6) zx zy dX0_look_45 (by decide) ?_
        exact ih6 (i + 1) (al + (fouV fm i y)) (by first | assumption | omega) (by subst hal; rfl) _ _ _ (by omega) hH (lv_sub hl [2, 3, 4, 5, 1, 0] rfl)
  exact L6 _ 0 0 (by first | assumption | omega) (rfl) _ _ _ (Nat.lt_succ_self _) (by rw [preF_0]; exact hH) (lv_sub hl [2, 3, 4, 5, 1, 0] rfl)
set_option maxHeartbeats 4000000 in
set_option maxRecDepth 100000 in
theorem k_X0_mostCutOff (l : Launch) (D : va_G) (cI cZ : ClassId) (h : Nat) (r0 : Nat) (r1 : Nat) (r2 : Nat) (a2 : Nat) (f2 : Nat → Int32) (wk : Nat) (hwk : wk ≤ 10) (hw1 : 1 ≤ wk) : fx_CI l D cI cZ yX0_mostCutOff wsX0_mostCutOff ({ frames := 1, cells := 0, slots := 0, locals := 21 }) [.ref h, .int (nI wk)] [(h, .inr (0, [.ref r0, .ref r1, .ref r2])), (r2, .inr (6, [.ref a2])), (a2, .inl (cI, 10, .inl f2))] (fun (u : Unit) => [(h, .inr (0, [.ref r0, .ref r1, .ref r2])), (r2, .inr (6, [.ref a2])), (a2, .inl (cI, 10, .inl f2))]) (fun (r : Int32) (u : Unit) => r = nI (mcB f2 wk)) := by
  refine fx_CI.of (ws' := (wsX0_mostCutOff).tail) cX0_mostCutOff 4 (by decide) rfl (Nat.le_of_ble_eq_true rfl) ?_
  intro zp ze zs zm za zb zt zc zA ls zQ hQ hC hr hlk hA hH hl
  have zx := hC.1.1
  have zy := hC.1.2.1
  have hl : lv_has ls 4 [(0, .ref h), (1, .int (nI wk))] := hl
  refine lv_iconst (v := 0) zx zy dX0_mostCutOff_0 (by decide) ?_
  refine lv_topi (fun v1 ev1 => ?_)
  obtain rfl : v1 = nI 0 := ev1.trans (rfl)
  refine lv_istore_n (lv' := [(2, .int (nI 0)), (0, .ref h), (1, .int (nI wk))]) zx zy dX0_mostCutOff_1 rfl hl (by decide) rfl (fun ls hl => ?_)
  refine lv_iconst (v := 1) zx zy dX0_mostCutOff_2 (by decide) ?_
  refine lv_topi (fun v2 ev2 => ?_)
  obtain rfl : v2 = nI 1 := ev2.trans (rfl)
  refine lv_istore_n (lv' := [(3, .int (nI 1)), (2, .int (nI 0)), (0, .ref h), (1, .int (nI wk))]) zx zy dX0_mostCutOff_3 rfl hl (by decide) rfl (fun ls hl => ?_)
  have L4 : ∀ (fu : Nat) (i : Nat) (b : Nat) (hi1 : 1 ≤ i) (hi : i ≤ wk) (hb : b = mcB f2 i) (H : Heap) (locs : List Loc) (ls : Array Slot), wk - i < fu → fx_H zA zs.heap H locs D [(h, .inr (0, [.ref r0, .ref r1, .ref r2])), (r2, .inr (6, [.ref a2])), (a2, .inl (cI, 10, .inl f2))] → lv_has ls 4 [(0, .ref h), (1, .int (nI wk)), (2, .int (nI b)), (3, .int (nI i))] → W zp l ze ({ frames := 1, cells := 0, slots := 0, locals := 21 }) zs zm za zb zt zc H locs (0) (0) zQ (F0 zm 4 ls []) := by
    intro fu
    induction fu with
    | zero => intro i b hi1 hi hb H locs ls hfu; exact absurd hfu (Nat.not_lt_zero _)
    | succ fu ih4 =>
      intro i b hi1 hi hb H locs ls hfu4 hH hl
      refine lv_iload_n zx zy dX0_mostCutOff_4 rfl (lv_at hl 3 rfl) ?_
      refine lv_iload_n zx zy dX0_mostCutOff_5 rfl (lv_at hl 1 rfl) ?_
      refine lv_icmp_ge (tgt := 36) zx zy dX0_mostCutOff_6 (by decide) (fun c6 => ?_) (fun c6 => ?_)
      · skip
        refine lv_iload_n zx zy dX0_mostCutOff_36 rfl (lv_at hl 2 rfl) ?_
        exact fx_iret (v := nI b) hQ hC hr hlk hH dX0_mostCutOff_37 rfl (Nat.le_of_ble_eq_true rfl) (Nat.le_of_ble_eq_true rfl) (()) rfl (by rw [hb, Nat.le_antisymm hi (fx_le_of c6 (by omega) (by omega))])
      · skip
        have hlt : i < wk := fx_lt_of c6 (by omega)
        have hb10 : b < 10 := by have := mcB_lt f2 i hi1; omega
        refine lv_aload_n zx zy dX0_mostCutOff_9 rfl (lv_at hl 0 rfl) ?_
        refine fx_get (C := RX0) (T := TX0) (N := 3) hC (fun _ h => List.mem_cons_of_mem _ (List.mem_append_left _ (List.mem_append_right _ h))) hH 0 rfl rfl 2 (by decide) (by decide +kernel) rfl dX0_mostCutOff_10 ?_
        refine lv_iload_n zx zy dX0_mostCutOff_13 rfl (lv_at hl 3 rfl) ?_
        refine fx_cVi (n := 1) (As := [.int (nI i)]) (b := r2) (rest := []) (fun (u : Unit) => [(h, .inr (0, [.ref r0, .ref r1, .ref r2])), (r2, .inr (6, [.ref a2])), (a2, .inl (cI, 10, .inl f2))]) hC hA hH (k_X6_at l D cI cZ r2 a2 10 f2 (nI i) (by first | assumption | omega)) [1, 2] [0] [0, 1, 2] [(h, .inr (0, [.ref r0, .ref r1, .ref r2]))] rfl rfl (by decide) (by decide) (fun _ => rfl) rfl gX0_mostCutOff_X6_at (by decide +kernel) ⟨Nat.le_of_ble_eq_true rfl, Nat.le_of_ble_eq_true rfl⟩ 0 rfl rfl rfl rfl rfl hl.1 (Nat.le_of_ble_eq_true rfl) ⟨Nat.le_of_ble_eq_true rfl, Nat.le_of_ble_eq_true rfl⟩ dX0_mostCutOff_14 (fun r3 u H locs hw14 hH => ?_)
        obtain rfl : r3 = rAt 10 f2 (nI i) := hw14
        have hH := (hH : fx_H zA zs.heap H locs D [(h, .inr (0, [.ref r0, .ref r1, .ref r2])), (r2, .inr (6, [.ref a2])), (a2, .inl (cI, 10, .inl f2))])
        refine lv_topi (fun v4 ev4 => ?_)
        obtain rfl : v4 = f2 i := ev4.trans (rAt_nI (by omega) (by omega))
        refine lv_aload_n zx zy dX0_mostCutOff_17 rfl (lv_at hl 0 rfl) ?_
        refine fx_get (C := RX0) (T := TX0) (N := 3) hC (fun _ h => List.mem_cons_of_mem _ (List.mem_append_left _ (List.mem_append_right _ h))) hH 0 rfl rfl 2 (by decide) (by decide +kernel) rfl dX0_mostCutOff_18 ?_
        refine lv_iload_n zx zy dX0_mostCutOff_21 rfl (lv_at hl 2 rfl) ?_
        refine fx_cVi (n := 1) (As := [.int (nI b)]) (b := r2) (rest := [.int (f2 i)]) (fun (u : Unit) => [(h, .inr (0, [.ref r0, .ref r1, .ref r2])), (r2, .inr (6, [.ref a2])), (a2, .inl (cI, 10, .inl f2))]) hC hA hH (k_X6_at l D cI cZ r2 a2 10 f2 (nI b) (by first | assumption | omega)) [1, 2] [0] [0, 1, 2] [(h, .inr (0, [.ref r0, .ref r1, .ref r2]))] rfl rfl (by decide) (by decide) (fun _ => rfl) rfl gX0_mostCutOff_X6_at (by decide +kernel) ⟨Nat.le_of_ble_eq_true rfl, Nat.le_of_ble_eq_true rfl⟩ 0 rfl rfl rfl rfl rfl hl.1 (Nat.le_of_ble_eq_true rfl) ⟨Nat.le_of_ble_eq_true rfl, Nat.le_of_ble_eq_true rfl⟩ dX0_mostCutOff_22 (fun r5 u H locs hw22 hH => ?_)
        obtain rfl : r5 = rAt 10 f2 (nI b) := hw22
        have hH := (hH : fx_H zA zs.heap H locs D [(h, .inr (0, [.ref r0, .ref r1, .ref r2])), (r2, .inr (6, [.ref a2])), (a2, .inl (cI, 10, .inl f2))])
        refine lv_topi (fun v6 ev6 => ?_)
        obtain rfl : v6 = f2 b := ev6.trans (rAt_nI (by omega) (by omega))
        refine lv_icmp_le (tgt := 30) zx zy dX0_mostCutOff_25 (by decide) (fun c25 => ?_) (fun c25 => ?_)
        · skip
          refine lv_iinc (v := nI (i + 1)) (lv' := [(3, .int (nI (i + 1))), (0, .ref h), (1, .int (nI wk)), (2, .int (nI b))]) zx zy dX0_mostCutOff_30 hl (k := 3) rfl (nI_1 _) (by decide) rfl (fun ls hl => ?_)
          refine lv_goto (tgt := 4) zx zy dX0_mostCutOff_33 (by decide) ?_
          exact ih4 (i + 1) b (by first | assumption | omega) (by first | assumption | omega) (by subst hb; first | exact (if_pos c25).symm | exact (if_neg c25).symm) _ _ _ (by omega) hH (lv_sub hl [1, 2, 3, 0] rfl)
        · skip
          refine lv_iload_n zx zy dX0_mostCutOff_28 rfl (lv_at hl 3 rfl) ?_
          refine lv_istore_n (lv' := [(2, .int (nI i)), (0, .ref h), (1, .int (nI wk)), (3, .int (nI i))]) zx zy dX0_mostCutOff_29 rfl hl (by decide) rfl (fun ls hl => ?_)
          refine lv_iinc (v := nI (i + 1)) (lv' := [(3, .int (nI (i + 1))), (2, .int (nI i)), (0, .ref h), (1, .int (nI wk))]) zx zy dX0_mostCutOff_30 hl (k := 3) rfl (nI_1 _) (by decide) rfl (fun ls hl => ?_)
          refine lv_goto (tgt := 4) zx zy dX0_mostCutOff_33 (by decide) ?_
          exact ih4 (i + 1) i (by first | assumption | omega) (by first | assumption | omega) (by subst hb; first | exact (if_pos c25).symm | exact (if_neg c25).symm) _ _ _ (by omega) hH (lv_sub hl [2, 3, 1, 0] rfl)
  exact L4 _ 1 0 (by first | assumption | omega) (by first | assumption | omega) (mcB_1 f2).symm _ _ _ (Nat.lt_succ_self _) hH (lv_sub hl [2, 3, 1, 0] rfl)
set_option maxHeartbeats 4000000 in
set_option maxRecDepth 100000 in
theorem k_X0_giveRest (l : Launch) (D : va_G) (cI cZ : ClassId) (h : Nat) (r0 : Nat) (r1 : Nat) (r2 : Nat) (a1 : Nat) (a2 : Nat) (f1 : Nat → Int32) (f2 : Nat → Int32) (tg : Int32) (gv : Int32) (wk : Nat) (hwk : wk ≤ 10) : fx_CI l D cI cZ yX0_giveRest wsX0_giveRest ({ frames := 2, cells := 0, slots := 0, locals := 44 }) [.ref h, .int tg, .int gv, .int (nI wk)] [(h, .inr (0, [.ref r0, .ref r1, .ref r2])), (r1, .inr (6, [.ref a1])), (a1, .inl (cI, 10, .inl f1)), (r2, .inr (6, [.ref a2])), (a2, .inl (cI, 10, .inl f2))] (fun (u : (Nat → Int32) × (Nat → Int32)) => [(h, .inr (0, [.ref r0, .ref r1, .ref r2])), (r1, .inr (6, [.ref a1])), (a1, .inl (cI, 10, .inl u.1)), (r2, .inr (6, [.ref a2])), (a2, .inl (cI, 10, .inl u.2))]) (fun (r : Int32) (u : (Nat → Int32) × (Nat → Int32)) => r = (grG wk tg wk gv f1 f2).1 ∧ u.1 = (grG wk tg wk gv f1 f2).2.1 ∧ u.2 = (grG wk tg wk gv f1 f2).2.2) := by
  refine fx_CI.of (ws' := (wsX0_giveRest).tail) cX0_giveRest 7 (by decide) rfl (Nat.le_of_ble_eq_true rfl) ?_
  intro zp ze zs zm za zb zt zc zA ls zQ hQ hC hr hlk hA hH hl
  have zx := hC.1.1
  have zy := hC.1.2.1
  have hl : lv_has ls 7 [(0, .ref h), (1, .int tg), (2, .int gv), (3, .int (nI wk))] := hl
  refine lv_iload_n zx zy dX0_giveRest_0 rfl (lv_at hl 2 rfl) ?_
  refine lv_istore (lv' := [(4, .int gv), (0, .ref h), (1, .int tg), (2, .int gv), (3, .int (nI wk))]) zx zy dX0_giveRest_1 hl (by decide) rfl (fun ls hl => ?_)
  refine lv_iconst (v := 0) zx zy dX0_giveRest_3 (by decide) ?_
  refine lv_topi (fun v1 ev1 => ?_)
  obtain rfl : v1 = nI 0 := ev1.trans (rfl)
  refine lv_istore (lv' := [(5, .int (nI 0)), (4, .int gv), (0, .ref h), (1, .int tg), (2, .int gv), (3, .int (nI wk))]) zx zy dX0_giveRest_4 hl (by decide) rfl (fun ls hl => ?_)
  have L6 : ∀ (fu : Nat) (i : Nat) (g : Int32) (p : Nat → Int32) (c : Nat → Int32) (hi : i ≤ wk) (hG : grG wk tg (wk - i) g p c = grG wk tg wk gv f1 f2) (H : Heap) (locs : List Loc) (ls : Array Slot), wk - i < fu → fx_H zA zs.heap H locs D [(h, .inr (0, [.ref r0, .ref r1, .ref r2])), (r1, .inr (6, [.ref a1])), (a1, .inl (cI, 10, .inl p)), (r2, .inr (6, [.ref a2])), (a2, .inl (cI, 10, .inl c))] → lv_has ls 7 [(0, .ref h), (1, .int tg), (2, .int gv), (3, .int (nI wk)), (4, .int g), (5, .int (nI i))] → W zp l ze ({ frames := 2, cells := 0, slots := 0, locals := 44 }) zs zm za zb zt zc H locs (0) (0) zQ (F0 zm 6 ls []) := by
    intro fu
    induction fu with
    | zero => intro i g p c hi hG H locs ls hfu; exact absurd hfu (Nat.not_lt_zero _)
    | succ fu ih6 =>
      intro i g p c hi hG H locs ls hfu6 hH hl
      refine lv_iload zx zy dX0_giveRest_6 (lv_at hl 5 rfl) ?_
      refine lv_iload_n zx zy dX0_giveRest_8 rfl (lv_at hl 3 rfl) ?_
      refine lv_icmp_ge (tgt := 54) zx zy dX0_giveRest_9 (by decide) (fun c9 => ?_) (fun c9 => ?_)
      · skip
        refine lv_iload zx zy dX0_giveRest_54 (lv_at hl 4 rfl) ?_
        exact fx_iret (v := g) hQ hC hr hlk hH dX0_giveRest_56 rfl (Nat.le_of_ble_eq_true rfl) (Nat.le_of_ble_eq_true rfl) ((p, c)) rfl (by first | exact (by rw [← hG, grG_e (Or.inl c15)]; exact ⟨rfl, rfl, rfl⟩) | exact (by rw [← hG, grG_e (Or.inr (Nat.sub_eq_zero_of_le (fx_le_of c9 (by omega) (by omega))))]; exact ⟨rfl, rfl, rfl⟩))
      · skip
        have hlt : i < wk := fx_lt_of c9 (by omega)
        have hm10 := mcB_lt c wk (by omega)
        refine lv_iload zx zy dX0_giveRest_12 (lv_at hl 4 rfl) ?_
        refine lv_iload_n zx zy dX0_giveRest_14 rfl (lv_at hl 1 rfl) ?_
        refine lv_icmp_ge (tgt := 54) zx zy dX0_giveRest_15 (by decide) (fun c15 => ?_) (fun c15 => ?_)
        · skip
          refine lv_iload zx zy dX0_giveRest_54 (lv_at hl 4 rfl) ?_
          exact fx_iret (v := g) hQ hC hr hlk hH dX0_giveRest_56 rfl (Nat.le_of_ble_eq_true rfl) (Nat.le_of_ble_eq_true rfl) ((p, c)) rfl (by first | exact (by rw [← hG, grG_e (Or.inl c15)]; exact ⟨rfl, rfl, rfl⟩) | exact (by rw [← hG, grG_e (Or.inr (Nat.sub_eq_zero_of_le (fx_le_of c9 (by omega) (by omega))))]; exact ⟨rfl, rfl, rfl⟩))
        · skip
          refine lv_aload_n zx zy dX0_giveRest_18 rfl (lv_at hl 0 rfl) ?_
          refine lv_iload_n zx zy dX0_giveRest_19 rfl (lv_at hl 3 rfl) ?_
          refine fx_cVi (n := 1) (As := [.int (nI wk)]) (b := h) (rest := []) (fun (u : Unit) => [(h, .inr (0, [.ref r0, .ref r1, .ref r2])), (r1, .inr (6, [.ref a1])), (a1, .inl (cI, 10, .inl p)), (r2, .inr (6, [.ref a2])), (a2, .inl (cI, 10, .inl c))]) hC hA hH (k_X0_mostCutOff l D cI cZ h r0 r1 r2 a2 c wk (by first | assumption | omega) (by first | assumption | omega)) [0, 3, 4] [1, 2] [2, 0, 1, 3, 4] [(r1, .inr (6, [.ref a1])), (a1, .inl (cI, 10, .inl p))] rfl rfl (by decide) (by decide) (fun _ => rfl) rfl gX0_giveRest_X0_mostCutOff (by decide +kernel) ⟨Nat.le_of_ble_eq_true rfl, Nat.le_of_ble_eq_true rfl⟩ 0 rfl rfl rfl rfl rfl hl.1 (Nat.le_of_ble_eq_true rfl) ⟨Nat.le_of_ble_eq_true rfl, Nat.le_of_ble_eq_true rfl⟩ dX0_giveRest_20 (fun r2 u H locs hw20 hH => ?_)
          obtain rfl : r2 = nI (mcB c wk) := hw20
          have hH := (hH : fx_H zA zs.heap H locs D [(h, .inr (0, [.ref r0, .ref r1, .ref r2])), (r1, .inr (6, [.ref a1])), (a1, .inl (cI, 10, .inl p)), (r2, .inr (6, [.ref a2])), (a2, .inl (cI, 10, .inl c))])
          refine lv_istore (lv' := [(6, .int (nI (mcB c wk))), (0, .ref h), (1, .int tg), (2, .int gv), (3, .int (nI wk)), (4, .int g), (5, .int (nI i))]) zx zy dX0_giveRest_23 hl (by decide) rfl (fun ls hl => ?_)
          refine lv_aload_n zx zy dX0_giveRest_25 rfl (lv_at hl 1 rfl) ?_
          refine fx_get (C := RX0) (T := TX0) (N := 3) hC (fun _ h => List.mem_cons_of_mem _ (List.mem_append_left _ (List.mem_append_right _ h))) hH 0 rfl rfl 1 (by decide) (by decide +kernel) rfl dX0_giveRest_26 ?_
          refine lv_iload zx zy dX0_giveRest_29 (lv_at hl 0 rfl) ?_
          refine lv_iconst (v := 1) zx zy dX0_giveRest_31 (by decide) ?_
          refine fx_cVv (n := 2) (As := [.int (nI (mcB c wk)), .int 1]) (b := r1) (rest := []) (fun (u : (Nat → Int32)) => [(h, .inr (0, [.ref r0, .ref r1, .ref r2])), (r1, .inr (6, [.ref a1])), (a1, .inl (cI, 10, .inl u)), (r2, .inr (6, [.ref a2])), (a2, .inl (cI, 10, .inl c))]) hC hA hH (k_X6_add l D cI cZ r1 a1 10 p (nI (mcB c wk)) 1 (by first | assumption | omega)) [1, 2] [0, 3, 4] [0, 3, 4, 1, 2] [(h, .inr (0, [.ref r0, .ref r1, .ref r2])), (r2, .inr (6, [.ref a2])), (a2, .inl (cI, 10, .inl c))] rfl rfl (by decide) (by decide) (fun _ => rfl) rfl gX0_giveRest_X6_add (by decide +kernel) ⟨Nat.le_of_ble_eq_true rfl, Nat.le_of_ble_eq_true rfl⟩ 0 rfl rfl rfl rfl rfl hl.1 (Nat.le_of_ble_eq_true rfl) ⟨Nat.le_of_ble_eq_true rfl, Nat.le_of_ble_eq_true rfl⟩ dX0_giveRest_32 (fun u H locs hw32 hH => ?_)
          obtain ⟨u4, rfl⟩ : ∃ z, z = u := ⟨_, rfl⟩
          obtain rfl : u4 = rPut 10 p (nI (mcB c wk)) (rAt 10 p (nI (mcB c wk)) + 1) := hw32
          have hH := (hH : fx_H zA zs.heap H locs D [(h, .inr (0, [.ref r0, .ref r1, .ref r2])), (r1, .inr (6, [.ref a1])), (a1, .inl (cI, 10, .inl (rPut 10 p (nI (mcB c wk)) (rAt 10 p (nI (mcB c wk)) + 1)))), (r2, .inr (6, [.ref a2])), (a2, .inl (cI, 10, .inl c))])
          rw [show (rPut 10 p (nI (mcB c wk)) (rAt 10 p (nI (mcB c wk)) + 1) : Nat → Int32) = upd p (mcB c wk) (p (mcB c wk) + 1) from rAdd_nI (by omega) (by omega)] at hH
          refine lv_aload_n zx zy dX0_giveRest_35 rfl (lv_at hl 1 rfl) ?_
          refine fx_get (C := RX0) (T := TX0) (N := 3) hC (fun _ h => List.mem_cons_of_mem _ (List.mem_append_left _ (List.mem_append_right _ h))) hH 0 rfl rfl 2 (by decide) (by decide +kernel) rfl dX0_giveRest_36 ?_
          refine lv_iload zx zy dX0_giveRest_39 (lv_at hl 0 rfl) ?_
          refine lv_iconst (v := (-1)) zx zy dX0_giveRest_41 (by decide) ?_
          refine fx_cVv (n := 2) (As := [.int (nI (mcB c wk)), .int (-1)]) (b := r2) (rest := []) (fun (u : (Nat → Int32)) => [(h, .inr (0, [.ref r0, .ref r1, .ref r2])), (r1, .inr (6, [.ref a1])), (a1, .inl (cI, 10, .inl (upd p (mcB c wk) (p (mcB c wk) + 1)))), (r2, .inr (6, [.ref a2])), (a2, .inl (cI, 10, .inl u))]) hC hA hH (k_X6_put l D cI cZ r2 a2 10 c (nI (mcB c wk)) (-1) (by first | assumption | omega)) [3, 4] [0, 1, 2] [0, 1, 2, 3, 4] [(h, .inr (0, [.ref r0, .ref r1, .ref r2])), (r1, .inr (6, [.ref a1])), (a1, .inl (cI, 10, .inl (upd p (mcB c wk) (p (mcB c wk) + 1))))] rfl rfl (by decide) (by decide) (fun _ => rfl) rfl gX0_giveRest_X6_put (by decide +kernel) ⟨Nat.le_of_ble_eq_true rfl, Nat.le_of_ble_eq_true rfl⟩ 0 rfl rfl rfl rfl rfl hl.1 (Nat.le_of_ble_eq_true rfl) ⟨Nat.le_of_ble_eq_true rfl, Nat.le_of_ble_eq_true rfl⟩ dX0_giveRest_42 (fun u H locs hw42 hH => ?_)
          obtain ⟨u6, rfl⟩ : ∃ z, z = u := ⟨_, rfl⟩
          obtain rfl : u6 = rPut 10 c (nI (mcB c wk)) (-1) := hw42
          have hH := (hH : fx_H zA zs.heap H locs D [(h, .inr (0, [.ref r0, .ref r1, .ref r2])), (r1, .inr (6, [.ref a1])), (a1, .inl (cI, 10, .inl (upd p (mcB c wk) (p (mcB c wk) + 1)))), (r2, .inr (6, [.ref a2])), (a2, .inl (cI, 10, .inl (rPut 10 c (nI (mcB c wk)) (-1))))])
          rw [show (rPut 10 c (nI (mcB c wk)) (-1) : Nat → Int32) = upd c (mcB c wk) (-1) from rPut_nI (by omega) (by omega)] at hH
          refine lv_iinc (v := g + 1) (lv' := [(4, .int (g + 1)), (6, .int (nI (mcB c wk))), (0, .ref h), (1, .int tg), (2, .int gv), (3, .int (nI wk)), (5, .int (nI i))]) zx zy dX0_giveRest_45 hl (k := 5) rfl rfl (by decide) rfl (fun ls hl => ?_)
          refine lv_iinc (v := nI (i + 1)) (lv' := [(5, .int (nI (i + 1))), (4, .int (g + 1)), (6, .int (nI (mcB c wk))), (0, .ref h), (1, .int tg), (2, .int gv), (3, .int (nI wk))]) zx zy dX0_giveRest_48 hl (k := 6) rfl (nI_1 _) (by decide) rfl (fun ls hl => ?_)
          refine lv_goto (tgt := 6) zx zy dX0_giveRest_51 (by decide) ?_
          exact ih6 (i + 1) (g + 1) (upd p (mcB c wk) (p (mcB c wk) + 1)) (upd c (mcB c wk) (-1)) (by first | assumption | omega) ((grG_s hlt c15).symm.trans hG) _ _ _ (by omega) hH (lv_sub hl [3, 4, 5, 6, 1, 0] rfl)
  exact L6 _ 0 gv f1 f2 (by first | assumption | omega) (rfl) _ _ _ (Nat.lt_succ_self _) hH (lv_sub hl [2, 3, 4, 5, 1, 0] rfl)
set_option maxHeartbeats 4000000 in
set_option maxRecDepth 100000 in
theorem k_X0_share (l : Launch) (D : va_G) (cI cZ : ClassId) (h : Nat) (r0 : Nat) (r1 : Nat) (r2 : Nat) (a0 : Nat) (a1 : Nat) (a2 : Nat) (f0 : Nat → Int32) (f1 : Nat → Int32) (f2 : Nat → Int32) (hm : Nat) (rm : Nat) (am : Nat) (fm : Nat → Int32) (tg : Int32) (wk : Nat) (y : Nat) (hwk : wk ≤ 10) (hy : y < 20) : fx_CI l D cI cZ yX0_share wsX0_share ({ frames := 5, cells := 0, slots := 0, locals := 122 }) [.ref h, .int tg, .ref hm, .int (nI wk), .int (nI y)] [(h, .inr (0, [.ref r0, .ref r1, .ref r2])), (r0, .inr (6, [.ref a0])), (a0, .inl (cI, 10, .inl f0)), (r1, .inr (6, [.ref a1])), (a1, .inl (cI, 10, .inl f1)), (r2, .inr (6, [.ref a2])), (a2, .inl (cI, 10, .inl f2)), (hm, .inr (4, [.ref rm])), (rm, .inr (6, [.ref am])), (am, .inl (cI, 800, .inl fm))] (fun (u : (Nat → Int32) × (Nat → Int32) × (Nat → Int32)) => [(h, .inr (0, [.ref r0, .ref r1, .ref r2])), (r0, .inr (6, [.ref a0])), (a0, .inl (cI, 10, .inl u.1)), (r1, .inr (6, [.ref a1])), (a1, .inl (cI, 10, .inl u.2.1)), (r2, .inr (6, [.ref a2])), (a2, .inl (cI, 10, .inl u.2.2)), (hm, .inr (4, [.ref rm])), (rm, .inr (6, [.ref am])), (am, .inl (cI, 800, .inl fm))]) (fun (r : Int32) (u : (Nat → Int32) × (Nat → Int32) × (Nat → Int32)) => (((y = 0 ∨ fouA fm (y - 1) wk ≤ 0) ∧ ∀ j, j < wk → u.2.1 j = 0) ∧ r = 0) ∨ (((¬ y = 0 ∧ ¬ fouA fm (y - 1) wk ≤ 0) ∧ u.2.1 = (shG fm (y - 1) wk tg f1 f2).2.1) ∧ r = (shG fm (y - 1) wk tg f1 f2).1)) := by
  refine fx_CI.of (ws' := (wsX0_share).tail) cX0_share 9 (by decide) rfl (Nat.le_of_ble_eq_true rfl) ?_
  intro zp ze zs zm za zb zt zc zA ls zQ hQ hC hr hlk hA hH hl
  have zx := hC.1.1
  have zy := hC.1.2.1
  have hl : lv_has ls 9 [(0, .ref h), (1, .int tg), (2, .ref hm), (3, .int (nI wk)), (4, .int (nI y))] := hl
  refine lv_iload zx zy dX0_share_0 (lv_at hl 4 rfl) ?_
  refine lv_if_ne (tgt := 9) zx zy dX0_share_2 (by decide) (fun c2 => ?_) (fun c2 => ?_)
  · skip
    have hy0 : 0 < y := Nat.pos_of_ne_zero (fun h => c2 (by rw [h]; rfl))
    refine lv_aload_n zx zy dX0_share_9 rfl (lv_at hl 0 rfl) ?_
    refine lv_aload_n zx zy dX0_share_10 rfl (lv_at hl 2 rfl) ?_
    refine lv_iload_n zx zy dX0_share_11 rfl (lv_at hl 3 rfl) ?_
    refine lv_iload zx zy dX0_share_12 (lv_at hl 4 rfl) ?_
    refine lv_iconst (v := 1) zx zy dX0_share_14 (by decide) ?_
    refine lv_isub zx zy dX0_share_15 ?_
    refine lv_topi (fun v1 ev1 => ?_)
    obtain rfl : v1 = nI (y - 1) := ev1.trans (fx_m1 (by omega))
    refine fx_cVi (n := 3) (As := [.ref hm, .int (nI wk), .int (nI (y - 1))]) (b := h) (rest := []) (fun (u : (Nat → Int32)) => [(h, .inr (0, [.ref r0, .ref r1, .ref r2])), (r0, .inr (6, [.ref a0])), (a0, .inl (cI, 10, .inl u)), (r1, .inr (6, [.ref a1])), (a1, .inl (cI, 10, .inl f1)), (r2, .inr (6, [.ref a2])), (a2, .inl (cI, 10, .inl f2)), (hm, .inr (4, [.ref rm])), (rm, .inr (6, [.ref am])), (am, .inl (cI, 800, .inl fm))]) hC hA hH (k_X0_look l D cI cZ h r0 r1 r2 a0 f0 hm rm am fm wk (y - 1) (by first | assumption | omega) (by first | assumption | omega)) [0, 1, 2, 7, 8, 9] [3, 4, 5, 6] [4, 5, 6, 0, 1, 2, 3, 7, 8, 9] [(r1, .inr (6, [.ref a1])), (a1, .inl (cI, 10, .inl f1)), (r2, .inr (6, [.ref a2])), (a2, .inl (cI, 10, .inl f2))] rfl rfl (by decide) (by decide) (fun _ => rfl) rfl gX0_share_X0_look (by decide +kernel) ⟨Nat.le_of_ble_eq_true rfl, Nat.le_of_ble_eq_true rfl⟩ 0 rfl rfl rfl rfl rfl hl.1 (Nat.le_of_ble_eq_true rfl) ⟨Nat.le_of_ble_eq_true rfl, Nat.le_of_ble_eq_true rfl⟩ dX0_share_16 (fun r2 u H locs hw16 hH => ?_)
    obtain ⟨u3, rfl⟩ : ∃ z, z = u := ⟨_, rfl⟩
    obtain ⟨e4, e5⟩ := hw16
    obtain rfl : r2 = fouA fm (y - 1) wk := e4
    obtain rfl : u3 = preF f0 (fun j => fouV fm j (y - 1)) wk := e5
    have hH := (hH : fx_H zA zs.heap H locs D [(h, .inr (0, [.ref r0, .ref r1, .ref r2])), (r0, .inr (6, [.ref a0])), (a0, .inl (cI, 10, .inl (preF f0 (fun j => fouV fm j (y - 1)) wk))), (r1, .inr (6, [.ref a1])), (a1, .inl (cI, 10, .inl f1)), (r2, .inr (6, [.ref a2])), (a2, .inl (cI, 10, .inl f2)), (hm, .inr (4, [.ref rm])), (rm, .inr (6, [.ref am])), (am, .inl (cI, 800, .inl fm))])
    refine lv_istore (lv' := [(5, .int (fouA fm (y - 1) wk)), (0, .ref h), (1, .int tg), (2, .ref hm), (3, .int (nI wk)), (4, .int (nI y))]) zx zy dX0_share_19 hl (by decide) rfl (fun ls hl => ?_)
    refine lv_iconst (v := 0) zx zy dX0_share_21 (by decide) ?_
    refine lv_istore (lv' := [(6, .int 0), (5, .int (fouA fm (y - 1) wk)), (0, .ref h), (1, .int tg), (2, .ref hm), (3, .int (nI wk)), (4, .int (nI y))]) zx zy dX0_share_22 hl (by decide) rfl (fun ls hl => ?_)
    refine lv_iconst (v := 0) zx zy dX0_share_24 (by decide) ?_
    refine lv_topi (fun v6 ev6 => ?_)
    obtain rfl : v6 = nI 0 := ev6.trans (rfl)
    refine lv_istore (lv' := [(7, .int (nI 0)), (6, .int 0), (5, .int (fouA fm (y - 1) wk)), (0, .ref h), (1, .int tg), (2, .ref hm), (3, .int (nI wk)), (4, .int (nI y))]) zx zy dX0_share_25 hl (by decide) rfl (fun ls hl => ?_)
    have L27 : ∀ (fu : Nat) (i : Nat) (gv : Int32) (hi : i ≤ wk) (hgv : gv = shS (shP tg (fouA fm (y - 1) wk) (fun j => fouV fm j (y - 1))) i) (H : Heap) (locs : List Loc) (ls : Array Slot), wk - i < fu → fx_H zA zs.heap H locs D [(h, .inr (0, [.ref r0, .ref r1, .ref r2])), (r0, .inr (6, [.ref a0])), (a0, .inl (cI, 10, .inl (preF f0 (fun j => fouV fm j (y - 1)) wk))), (r1, .inr (6, [.ref a1])), (a1, .inl (cI, 10, .inl (preF f1 (shP tg (fouA fm (y - 1) wk) (fun j => fouV fm j (y - 1))) i))), (r2, .inr (6, [.ref a2])), (a2, .inl (cI, 10, .inl (preF f2 (shC tg (fouA fm (y - 1) wk) (fun j => fouV fm j (y - 1))) i))), (hm, .inr (4, [.ref rm])), (rm, .inr (6, [.ref am])), (am, .inl (cI, 800, .inl fm))] → lv_has ls 9 [(0, .ref h), (1, .int tg), (2, .ref hm), (3, .int (nI wk)), (4, .int (nI y)), (5, .int (fouA fm (y - 1) wk)), (6, .int gv), (7, .int (nI i))] → W zp l ze ({ frames := 5, cells := 0, slots := 0, locals := 122 }) zs zm za zb zt zc H locs (0) (0) zQ (F0 zm 27 ls []) := by
      intro fu
      induction fu with
      | zero => intro i gv hi hgv H locs ls hfu; exact absurd hfu (Nat.not_lt_zero _)
      | succ fu ih27 =>
        intro i gv hi hgv H locs ls hfu27 hH hl
        refine lv_iload zx zy dX0_share_27 (lv_at hl 7 rfl) ?_
        refine lv_iload_n zx zy dX0_share_29 rfl (lv_at hl 3 rfl) ?_
        refine lv_icmp_ge (tgt := 112) zx zy dX0_share_30 (by decide) (fun c30 => ?_) (fun c30 => ?_)
        · skip
          have hiw : i = wk := Nat.le_antisymm hi (fx_le_of c30 (by omega) (by omega))
          refine lv_iload zx zy dX0_share_112 (lv_at hl 5 rfl) ?_
          refine lv_if_le (tgt := 128) zx zy dX0_share_114 (by decide) (fun c114 => ?_) (fun c114 => ?_)
          · skip
            refine lv_iconst (v := 0) zx zy dX0_share_128 (by decide) ?_
            exact fx_iret (v := 0) hQ hC hr hlk hH dX0_share_129 rfl (Nat.le_of_ble_eq_true rfl) (Nat.le_of_ble_eq_true rfl) ((preF f0 (fun j => fouV fm j (y - 1)) wk, preF f1 (shP tg (fouA fm (y - 1) wk) (fun j => fouV fm j (y - 1))) i, preF f2 (shC tg (fouA fm (y - 1) wk) (fun j => fouV fm j (y - 1))) i)) rfl (by subst hiw; first | exact Or.inl ⟨⟨Or.inl hy0, fun j hj => (if_pos hj).trans (if_pos c114)⟩, rfl⟩ | exact Or.inl ⟨⟨Or.inr c114, fun j hj => (if_pos hj).trans (if_pos c114)⟩, rfl⟩ | exact Or.inr ⟨⟨⟨by omega, c114⟩, by rw [hgv]; rfl⟩, by rw [hgv]; rfl⟩)
          · skip
            refine lv_aload_n zx zy dX0_share_117 rfl (lv_at hl 0 rfl) ?_
            refine lv_iload_n zx zy dX0_share_118 rfl (lv_at hl 1 rfl) ?_
            refine lv_iload zx zy dX0_share_119 (lv_at hl 6 rfl) ?_
            refine lv_iload_n zx zy dX0_share_121 rfl (lv_at hl 3 rfl) ?_
            refine fx_cVi (n := 3) (As := [.int tg, .int gv, .int (nI wk)]) (b := h) (rest := []) (fun (u : (Nat → Int32) × (Nat → Int32)) => [(h, .inr (0, [.ref r0, .ref r1, .ref r2])), (r0, .inr (6, [.ref a0])), (a0, .inl (cI, 10, .inl (preF f0 (fun j => fouV fm j (y - 1)) wk))), (r1, .inr (6, [.ref a1])), (a1, .inl (cI, 10, .inl u.1)), (r2, .inr (6, [.ref a2])), (a2, .inl (cI, 10, .inl u.2)), (hm, .inr (4, [.ref rm])), (rm, .inr (6, [.ref am])), (am, .inl (cI, 800, .inl fm))]) hC hA hH (k_X0_giveRest l D cI cZ h r0 r1 r2 a1 a2 (preF f1 (shP tg (fouA fm (y - 1) wk) (fun j => fouV fm j (y - 1))) i) (preF f2 (shC tg (fouA fm (y - 1) wk) (fun j => fouV fm j (y - 1))) i) tg gv wk (by first | assumption | omega)) [0, 3, 4, 5, 6] [1, 2, 7, 8, 9] [5, 0, 1, 6, 7, 8, 9, 2, 3, 4] [(r0, .inr (6, [.ref a0])), (a0, .inl (cI, 10, .inl (preF f0 (fun j => fouV fm j (y - 1)) wk))), (hm, .inr (4, [.ref rm])), (rm, .inr (6, [.ref am])), (am, .inl (cI, 800, .inl fm))] rfl rfl (by decide) (by decide) (fun _ => rfl) rfl gX0_share_X0_giveRest (by decide +kernel) ⟨Nat.le_of_ble_eq_true rfl, Nat.le_of_ble_eq_true rfl⟩ 0 rfl rfl rfl rfl rfl hl.1 (Nat.le_of_ble_eq_true rfl) ⟨Nat.le_of_ble_eq_true rfl, Nat.le_of_ble_eq_true rfl⟩ dX0_share_122 (fun r7 u H locs hw122 hH => ?_)
            obtain ⟨u8, u9⟩ := u
            obtain ⟨e10, e11, e12⟩ := hw122
            obtain rfl : r7 = (grG wk tg wk gv (preF f1 (shP tg (fouA fm (y - 1) wk) (fun j => fouV fm j (y - 1))) i) (preF f2 (shC tg (fouA fm (y - 1) wk) (fun j => fouV fm j (y - 1))) i)).1 := e10
            obtain rfl : u8 = (grG wk tg wk gv (preF f1 (shP tg (fouA fm (y - 1) wk) (fun j => fouV fm j (y - 1))) i) (preF f2 (shC tg (fouA fm (y - 1) wk) (fun j => fouV fm j (y - 1))) i)).2.1 := e11
            obtain rfl : u9 = (grG wk tg wk gv (preF f1 (shP tg (fouA fm (y - 1) wk) (fun j => fouV fm j (y - 1))) i) (preF f2 (shC tg (fouA fm (y - 1) wk) (fun j => fouV fm j (y - 1))) i)).2.2 := e12
            have hH := (hH : fx_H zA zs.heap H locs D [(h, .inr (0, [.ref r0, .ref r1, .ref r2])), (r0, .inr (6, [.ref a0])), (a0, .inl (cI, 10, .inl (preF f0 (fun j => fouV fm j (y - 1)) wk))), (r1, .inr (6, [.ref a1])), (a1, .inl (cI, 10, .inl ((grG wk tg wk gv (preF f1 (shP tg (fouA fm (y - 1) wk) (fun j => fouV fm j (y - 1))) i) (preF f2 (shC tg (fouA fm (y - 1) wk) (fun j => fouV fm j (y - 1))) i)).2.1))), (r2, .inr (6, [.ref a2])), (a2, .inl (cI, 10, .inl ((grG wk tg wk gv (preF f1 (shP tg (fouA fm (y - 1) wk) (fun j => fouV fm j (y - 1))) i) (preF f2 (shC tg (fouA fm (y - 1) wk) (fun j => fouV fm j (y - 1))) i)).2.2))), (hm, .inr (4, [.ref rm])), (rm, .inr (6, [.ref am])), (am, .inl (cI, 800, .inl fm))])
            refine lv_goto (tgt := 129) zx zy dX0_share_125 (by decide) ?_
            exact fx_iret (v := (grG wk tg wk gv (preF f1 (shP tg (fouA fm (y - 1) wk) (fun j => fouV fm j (y - 1))) i) (preF f2 (shC tg (fouA fm (y - 1) wk) (fun j => fouV fm j (y - 1))) i)).1) hQ hC hr hlk hH dX0_share_129 rfl (Nat.le_of_ble_eq_true rfl) (Nat.le_of_ble_eq_true rfl) ((preF f0 (fun j => fouV fm j (y - 1)) wk, (grG wk tg wk gv (preF f1 (shP tg (fouA fm (y - 1) wk) (fun j => fouV fm j (y - 1))) i) (preF f2 (shC tg (fouA fm (y - 1) wk) (fun j => fouV fm j (y - 1))) i)).2.1, (grG wk tg wk gv (preF f1 (shP tg (fouA fm (y - 1) wk) (fun j => fouV fm j (y - 1))) i) (preF f2 (shC tg (fouA fm (y - 1) wk) (fun j => fouV fm j (y - 1))) i)).2.2)) rfl (by subst hiw; first | exact Or.inl ⟨⟨Or.inl hy0, fun j hj => (if_pos hj).trans (if_pos c114)⟩, rfl⟩ | exact Or.inl ⟨⟨Or.inr c114, fun j hj => (if_pos hj).trans (if_pos c114)⟩, rfl⟩ | exact Or.inr ⟨⟨⟨by omega, c114⟩, by rw [hgv]; rfl⟩, by rw [hgv]; rfl⟩)
        · skip
          have hlt : i < wk := fx_lt_of c30 (by omega)
          refine lv_iload_n zx zy dX0_share_33 rfl (lv_at hl 1 rfl) ?_
          refine lv_aload_n zx zy dX0_share_34 rfl (lv_at hl 0 rfl) ?_
          refine fx_get (C := RX0) (T := TX0) (N := 3) hC (fun _ h => List.mem_cons_of_mem _ (List.mem_append_left _ (List.mem_append_left _ (List.mem_append_right _ h)))) hH 0 rfl rfl 0 (by decide) (by decide +kernel) rfl dX0_share_35 ?_
          refine lv_iload zx zy dX0_share_38 (lv_at hl 7 rfl) ?_
          refine fx_cVi (n := 1) (As := [.int (nI i)]) (b := r0) (rest := [.int tg]) (fun (u : Unit) => [(h, .inr (0, [.ref r0, .ref r1, .ref r2])), (r0, .inr (6, [.ref a0])), (a0, .inl (cI, 10, .inl (preF f0 (fun j => fouV fm j (y - 1)) wk))), (r1, .inr (6, [.ref a1])), (a1, .inl (cI, 10, .inl (preF f1 (shP tg (fouA fm (y - 1) wk) (fun j => fouV fm j (y - 1))) i))), (r2, .inr (6, [.ref a2])), (a2, .inl (cI, 10, .inl (preF f2 (shC tg (fouA fm (y - 1) wk) (fun j => fouV fm j (y - 1))) i))), (hm, .inr (4, [.ref rm])), (rm, .inr (6, [.ref am])), (am, .inl (cI, 800, .inl fm))]) hC hA hH (k_X6_at l D cI cZ r0 a0 10 (preF f0 (fun j => fouV fm j (y - 1)) wk) (nI i) (by first | assumption | omega)) [1, 2] [0, 3, 4, 5, 6, 7, 8, 9] [0, 8, 9, 1, 2, 3, 4, 5, 6, 7] [(h, .inr (0, [.ref r0, .ref r1, .ref r2])), (r1, .inr (6, [.ref a1])), (a1, .inl (cI, 10, .inl (preF f1 (shP tg (fouA fm (y - 1) wk) (fun j => fouV fm j (y - 1))) i))), (r2, .inr (6, [.ref a2])), (a2, .inl (cI, 10, .inl (preF f2 (shC tg (fouA fm (y - 1) wk) (fun j => fouV fm j (y - 1))) i))), (hm, .inr (4, [.ref rm])), (rm, .inr (6, [.ref am])), (am, .inl (cI, 800, .inl fm))] rfl rfl (by decide) (by decide) (fun _ => rfl) rfl gX0_share_X6_at (by decide +kernel) ⟨Nat.le_of_ble_eq_true rfl, Nat.le_of_ble_eq_true rfl⟩ 0 rfl rfl rfl rfl rfl hl.1 (Nat.le_of_ble_eq_true rfl) ⟨Nat.le_of_ble_eq_true rfl, Nat.le_of_ble_eq_true rfl⟩ dX0_share_40 (fun r13 u H locs hw40 hH => ?_)
          obtain rfl : r13 = rAt 10 (preF f0 (fun j => fouV fm j (y - 1)) wk) (nI i) := hw40
          have hH := (hH : fx_H zA zs.heap H locs D [(h, .inr (0, [.ref r0, .ref r1, .ref r2])), (r0, .inr (6, [.ref a0])), (a0, .inl (cI, 10, .inl (preF f0 (fun j => fouV fm j (y - 1)) wk))), (r1, .inr (6, [.ref a1])), (a1, .inl (cI, 10, .inl (preF f1 (shP tg (fouA fm (y - 1) wk) (fun j => fouV fm j (y - 1))) i))), (r2, .inr (6, [.ref a2])), (a2, .inl (cI, 10, .inl (preF f2 (shC tg (fouA fm (y - 1) wk) (fun j => fouV fm j (y - 1))) i))), (hm, .inr (4, [.ref rm])), (rm, .inr (6, [.ref am])), (am, .inl (cI, 800, .inl fm))])
          refine lv_topi (fun v14 ev14 => ?_)
          obtain rfl : v14 = fouV fm i (y - 1) := ev14.trans (preF_at (by omega) (by omega) hlt)
          refine lv_imul zx zy dX0_share_43 ?_
          refine lv_istore (lv' := [(8, .int (tg * (fouV fm i (y - 1)))), (0, .ref h), (1, .int tg), (2, .ref hm), (3, .int (nI wk)), (4, .int (nI y)), (5, .int (fouA fm (y - 1) wk)), (6, .int gv), (7, .int (nI i))]) zx zy dX0_share_44 hl (by decide) rfl (fun ls hl => ?_)
          refine lv_aload_n zx zy dX0_share_46 rfl (lv_at hl 1 rfl) ?_
          refine fx_get (C := RX0) (T := TX0) (N := 3) hC (fun _ h => List.mem_cons_of_mem _ (List.mem_append_left _ (List.mem_append_left _ (List.mem_append_right _ h)))) hH 0 rfl rfl 1 (by decide) (by decide +kernel) rfl dX0_share_47 ?_
          refine lv_iload zx zy dX0_share_50 (lv_at hl 8 rfl) ?_
          refine lv_iload zx zy dX0_share_52 (lv_at hl 6 rfl) ?_
          refine lv_if_le (tgt := 65) zx zy dX0_share_54 (by decide) (fun c54 => ?_) (fun c54 => ?_)
          · skip
            refine lv_iconst (v := 0) zx zy dX0_share_65 (by decide) ?_
            refine fx_cVv (n := 2) (As := [.int (nI i), .int 0]) (b := r1) (rest := []) (fun (u : (Nat → Int32)) => [(h, .inr (0, [.ref r0, .ref r1, .ref r2])), (r0, .inr (6, [.ref a0])), (a0, .inl (cI, 10, .inl (preF f0 (fun j => fouV fm j (y - 1)) wk))), (r1, .inr (6, [.ref a1])), (a1, .inl (cI, 10, .inl u)), (r2, .inr (6, [.ref a2])), (a2, .inl (cI, 10, .inl (preF f2 (shC tg (fouA fm (y - 1) wk) (fun j => fouV fm j (y - 1))) i))), (hm, .inr (4, [.ref rm])), (rm, .inr (6, [.ref am])), (am, .inl (cI, 800, .inl fm))]) hC hA hH (k_X6_put l D cI cZ r1 a1 10 (preF f1 (shP tg (fouA fm (y - 1) wk) (fun j => fouV fm j (y - 1))) i) (nI i) 0 (by first | assumption | omega)) [3, 4] [0, 1, 2, 5, 6, 7, 8, 9] [0, 1, 2, 8, 9, 3, 4, 5, 6, 7] [(h, .inr (0, [.ref r0, .ref r1, .ref r2])), (r0, .inr (6, [.ref a0])), (a0, .inl (cI, 10, .inl (preF f0 (fun j => fouV fm j (y - 1)) wk))), (r2, .inr (6, [.ref a2])), (a2, .inl (cI, 10, .inl (preF f2 (shC tg (fouA fm (y - 1) wk) (fun j => fouV fm j (y - 1))) i))), (hm, .inr (4, [.ref rm])), (rm, .inr (6, [.ref am])), (am, .inl (cI, 800, .inl fm))] rfl rfl (by decide) (by decide) (fun _ => rfl) rfl gX0_share_X6_put (by decide +kernel) ⟨Nat.le_of_ble_eq_true rfl, Nat.le_of_ble_eq_true rfl⟩ 0 rfl rfl rfl rfl rfl hl.1 (Nat.le_of_ble_eq_true rfl) ⟨Nat.le_of_ble_eq_true rfl, Nat.le_of_ble_eq_true rfl⟩ dX0_share_66 (fun u H locs hw66 hH => ?_)
            obtain ⟨u16, rfl⟩ : ∃ z, z = u := ⟨_, rfl⟩
            obtain rfl : u16 = rPut 10 (preF f1 (shP tg (fouA fm (y - 1) wk) (fun j => fouV fm j (y - 1))) i) (nI i) 0 := hw66
            have hH := (hH : fx_H zA zs.heap H locs D [(h, .inr (0, [.ref r0, .ref r1, .ref r2])), (r0, .inr (6, [.ref a0])), (a0, .inl (cI, 10, .inl (preF f0 (fun j => fouV fm j (y - 1)) wk))), (r1, .inr (6, [.ref a1])), (a1, .inl (cI, 10, .inl (rPut 10 (preF f1 (shP tg (fouA fm (y - 1) wk) (fun j => fouV fm j (y - 1))) i) (nI i) 0))), (r2, .inr (6, [.ref a2])), (a2, .inl (cI, 10, .inl (preF f2 (shC tg (fouA fm (y - 1) wk) (fun j => fouV fm j (y - 1))) i))), (hm, .inr (4, [.ref rm])), (rm, .inr (6, [.ref am])), (am, .inl (cI, 800, .inl fm))])
            rw [show (rPut 10 (preF f1 (shP tg (fouA fm (y - 1) wk) (fun j => fouV fm j (y - 1))) i) (nI i) 0 : Nat → Int32) = preF f1 (shP tg (fouA fm (y - 1) wk) (fun j => fouV fm j (y - 1))) (i + 1) from by first | exact preF_put (by omega) (by omega) (if_pos c54).symm | exact preF_put (by omega) (by omega) (if_neg c54).symm] at hH
            refine lv_aload_n zx zy dX0_share_69 rfl (lv_at hl 1 rfl) ?_
            refine fx_get (C := RX0) (T := TX0) (N := 3) hC (fun _ h => List.mem_cons_of_mem _ (List.mem_append_left _ (List.mem_append_left _ (List.mem_append_right _ h)))) hH 0 rfl rfl 2 (by decide) (by decide +kernel) rfl dX0_share_70 ?_
            refine lv_iload zx zy dX0_share_73 (lv_at hl 8 rfl) ?_
            refine lv_iload zx zy dX0_share_75 (lv_at hl 6 rfl) ?_
            refine lv_if_le (tgt := 88) zx zy dX0_share_77 (by decide) (fun c77 => ?_) (fun c77 => ?_)
            · skip
              refine lv_iconst (v := 0) zx zy dX0_share_88 (by decide) ?_
              refine fx_cVv (n := 2) (As := [.int (nI i), .int 0]) (b := r2) (rest := []) (fun (u : (Nat → Int32)) => [(h, .inr (0, [.ref r0, .ref r1, .ref r2])), (r0, .inr (6, [.ref a0])), (a0, .inl (cI, 10, .inl (preF f0 (fun j => fouV fm j (y - 1)) wk))), (r1, .inr (6, [.ref a1])), (a1, .inl (cI, 10, .inl (preF f1 (shP tg (fouA fm (y - 1) wk) (fun j => fouV fm j (y - 1))) (i + 1)))), (r2, .inr (6, [.ref a2])), (a2, .inl (cI, 10, .inl u)), (hm, .inr (4, [.ref rm])), (rm, .inr (6, [.ref am])), (am, .inl (cI, 800, .inl fm))]) hC hA hH (k_X6_put l D cI cZ r2 a2 10 (preF f2 (shC tg (fouA fm (y - 1) wk) (fun j => fouV fm j (y - 1))) i) (nI i) 0 (by first | assumption | omega)) [5, 6] [0, 1, 2, 3, 4, 7, 8, 9] [0, 1, 2, 3, 4, 8, 9, 5, 6, 7] [(h, .inr (0, [.ref r0, .ref r1, .ref r2])), (r0, .inr (6, [.ref a0])), (a0, .inl (cI, 10, .inl (preF f0 (fun j => fouV fm j (y - 1)) wk))), (r1, .inr (6, [.ref a1])), (a1, .inl (cI, 10, .inl (preF f1 (shP tg (fouA fm (y - 1) wk) (fun j => fouV fm j (y - 1))) (i + 1)))), (hm, .inr (4, [.ref rm])), (rm, .inr (6, [.ref am])), (am, .inl (cI, 800, .inl fm))] rfl rfl (by decide) (by decide) (fun _ => rfl) rfl gX0_share_X6_put (by decide +kernel) ⟨Nat.le_of_ble_eq_true rfl, Nat.le_of_ble_eq_true rfl⟩ 0 rfl rfl rfl rfl rfl hl.1 (Nat.le_of_ble_eq_true rfl) ⟨Nat.le_of_ble_eq_true rfl, Nat.le_of_ble_eq_true rfl⟩ dX0_share_89 (fun u H locs hw89 hH => ?_)
              obtain ⟨u18, rfl⟩ : ∃ z, z = u := ⟨_, rfl⟩
              obtain rfl : u18 = rPut 10 (preF f2 (shC tg (fouA fm (y - 1) wk) (fun j => fouV fm j (y - 1))) i) (nI i) 0 := hw89
              have hH := (hH : fx_H zA zs.heap H locs D [(h, .inr (0, [.ref r0, .ref r1, .ref r2])), (r0, .inr (6, [.ref a0])), (a0, .inl (cI, 10, .inl (preF f0 (fun j => fouV fm j (y - 1)) wk))), (r1, .inr (6, [.ref a1])), (a1, .inl (cI, 10, .inl (preF f1 (shP tg (fouA fm (y - 1) wk) (fun j => fouV fm j (y - 1))) (i + 1)))), (r2, .inr (6, [.ref a2])), (a2, .inl (cI, 10, .inl (rPut 10 (preF f2 (shC tg (fouA fm (y - 1) wk) (fun j => fouV fm j (y - 1))) i) (nI i) 0))), (hm, .inr (4, [.ref rm])), (rm, .inr (6, [.ref am])), (am, .inl (cI, 800, .inl fm))])
              rw [show (rPut 10 (preF f2 (shC tg (fouA fm (y - 1) wk) (fun j => fouV fm j (y - 1))) i) (nI i) 0 : Nat → Int32) = preF f2 (shC tg (fouA fm (y - 1) wk) (fun j => fouV fm j (y - 1))) (i + 1) from by first | exact preF_put (by omega) (by omega) (if_pos c77).symm | exact preF_put (by omega) (by omega) (if_neg c77).symm] at hH
              refine lv_iload zx zy dX0_share_92 (lv_at hl 7 rfl) ?_
              refine lv_aload_n zx zy dX0_share_94 rfl (lv_at hl 1 rfl) ?_
              refine fx_get (C := RX0) (T := TX0) (N := 3) hC (fun _ h => List.mem_cons_of_mem _ (List.mem_append_left _ (List.mem_append_left _ (List.mem_append_right _ h)))) hH 0 rfl rfl 1 (by decide) (by decide +kernel) rfl dX0_share_95 ?_
              refine lv_iload zx zy dX0_share_98 (lv_at hl 8 rfl) ?_
              refine fx_cVi (n := 1) (As := [.int (nI i)]) (b := r1) (rest := [.int gv]) (fun (u : Unit) => [(h, .inr (0, [.ref r0, .ref r1, .ref r2])), (r0, .inr (6, [.ref a0])), (a0, .inl (cI, 10, .inl (preF f0 (fun j => fouV fm j (y - 1)) wk))), (r1, .inr (6, [.ref a1])), (a1, .inl (cI, 10, .inl (preF f1 (shP tg (fouA fm (y - 1) wk) (fun j => fouV fm j (y - 1))) (i + 1)))), (r2, .inr (6, [.ref a2])), (a2, .inl (cI, 10, .inl (preF f2 (shC tg (fouA fm (y - 1) wk) (fun j => fouV fm j (y - 1))) (i + 1)))), (hm, .inr (4, [.ref rm])), (rm, .inr (6, [.ref am])), (am, .inl (cI, 800, .inl fm))]) hC hA hH (k_X6_at l D cI cZ r1 a1 10 (preF f1 (shP tg (fouA fm (y - 1) wk) (fun j => fouV fm j (y - 1))) (i + 1)) (nI i) (by first | assumption | omega)) [3, 4] [0, 1, 2, 5, 6, 7, 8, 9] [0, 1, 2, 8, 9, 3, 4, 5, 6, 7] [(h, .inr (0, [.ref r0, .ref r1, .ref r2])), (r0, .inr (6, [.ref a0])), (a0, .inl (cI, 10, .inl (preF f0 (fun j => fouV fm j (y - 1)) wk))), (r2, .inr (6, [.ref a2])), (a2, .inl (cI, 10, .inl (preF f2 (shC tg (fouA fm (y - 1) wk) (fun j => fouV fm j (y - 1))) (i + 1)))), (hm, .inr (4, [.ref rm])), (rm, .inr (6, [.ref am])), (am, .inl (cI, 800, .inl fm))] rfl rfl (by decide) (by decide) (fun _ => rfl) rfl gX0_share_X6_at (by decide +kernel) ⟨Nat.le_of_ble_eq_true rfl, Nat.le_of_ble_eq_true rfl⟩ 0 rfl rfl rfl rfl rfl hl.1 (Nat.le_of_ble_eq_true rfl) ⟨Nat.le_of_ble_eq_true rfl, Nat.le_of_ble_eq_true rfl⟩ dX0_share_100 (fun r19 u H locs hw100 hH => ?_)
              obtain rfl : r19 = rAt 10 (preF f1 (shP tg (fouA fm (y - 1) wk) (fun j => fouV fm j (y - 1))) (i + 1)) (nI i) := hw100
              have hH := (hH : fx_H zA zs.heap H locs D [(h, .inr (0, [.ref r0, .ref r1, .ref r2])), (r0, .inr (6, [.ref a0])), (a0, .inl (cI, 10, .inl (preF f0 (fun j => fouV fm j (y - 1)) wk))), (r1, .inr (6, [.ref a1])), (a1, .inl (cI, 10, .inl (preF f1 (shP tg (fouA fm (y - 1) wk) (fun j => fouV fm j (y - 1))) (i + 1)))), (r2, .inr (6, [.ref a2])), (a2, .inl (cI, 10, .inl (preF f2 (shC tg (fouA fm (y - 1) wk) (fun j => fouV fm j (y - 1))) (i + 1)))), (hm, .inr (4, [.ref rm])), (rm, .inr (6, [.ref am])), (am, .inl (cI, 800, .inl fm))])
              refine lv_topi (fun v20 ev20 => ?_)
              obtain rfl : v20 = shP tg (fouA fm (y - 1) wk) (fun j => fouV fm j (y - 1)) i := ev20.trans (preF_at (by omega) (by omega) (by omega))
              refine lv_iadd zx zy dX0_share_103 ?_
              refine lv_istore (lv' := [(6, .int (gv + (shP tg (fouA fm (y - 1) wk) (fun j => fouV fm j (y - 1)) i))), (8, .int (tg * (fouV fm i (y - 1)))), (0, .ref h), (1, .int tg), (2, .ref hm), (3, .int (nI wk)), (4, .int (nI y)), (5, .int (fouA fm (y - 1) wk)), (7, .int (nI i))]) zx zy dX0_share_104 hl (by decide) rfl (fun ls hl => ?_)
              refine lv_iinc (v := nI (i + 1)) (lv' := [(7, .int (nI (i + 1))), (6, .int (gv + (shP tg (fouA fm (y - 1) wk) (fun j => fouV fm j (y - 1)) i))), (8, .int (tg * (fouV fm i (y - 1)))), (0, .ref h), (1, .int tg), (2, .ref hm), (3, .int (nI wk)), (4, .int (nI y)), (5, .int (fouA fm (y - 1) wk))]) zx zy dX0_share_106 hl (k := 8) rfl (nI_1 _) (by decide) rfl (fun ls hl => ?_)
              refine lv_goto (tgt := 27) zx zy dX0_share_109 (by decide) ?_
              exact ih27 (i + 1) (gv + (shP tg (fouA fm (y - 1) wk) (fun j => fouV fm j (y - 1)) i)) (by first | assumption | omega) (by subst hgv; rfl) _ _ _ (by omega) hH (lv_sub hl [3, 4, 5, 6, 7, 8, 1, 0] rfl)
            · skip
              refine lv_iload zx zy dX0_share_80 (lv_at hl 0 rfl) ?_
              refine lv_iload zx zy dX0_share_82 (lv_at hl 6 rfl) ?_
              refine lv_irem zx zy dX0_share_84 (fun h => c77 (by rw [h]; decide)) ?_
              refine lv_goto (tgt := 89) zx zy dX0_share_85 (by decide) ?_
              refine fx_cVv (n := 2) (As := [.int (nI i), .int ((tg * (fouV fm i (y - 1))) - (tg * (fouV fm i (y - 1))) / (fouA fm (y - 1) wk) * (fouA fm (y - 1) wk))]) (b := r2) (rest := []) (fun (u : (Nat → Int32)) => [(h, .inr (0, [.ref r0, .ref r1, .ref r2])), (r0, .inr (6, [.ref a0])), (a0, .inl (cI, 10, .inl (preF f0 (fun j => fouV fm j (y - 1)) wk))), (r1, .inr (6, [.ref a1])), (a1, .inl (cI, 10, .inl (preF f1 (shP tg (fouA fm (y - 1) wk) (fun j => fouV fm j (y - 1))) (i + 1)))), (r2, .inr (6, [.ref a2])), (a2, .inl (cI, 10, .inl u)), (hm, .inr (4, [.ref rm])), (rm, .inr (6, [.ref am])), (am, .inl (cI, 800, .inl fm))]) hC hA hH (k_X6_put l D cI cZ r2 a2 10 (preF f2 (shC tg (fouA fm (y - 1) wk) (fun j => fouV fm j (y - 1))) i) (nI i) ((tg * (fouV fm i (y - 1))) - (tg * (fouV fm i (y - 1))) / (fouA fm (y - 1) wk) * (fouA fm (y - 1) wk)) (by first | assumption | omega)) [5, 6] [0, 1, 2, 3, 4, 7, 8, 9] [0, 1, 2, 3, 4, 8, 9, 5, 6, 7] [(h, .inr (0, [.ref r0, .ref r1, .ref r2])), (r0, .inr (6, [.ref a0])), (a0, .inl (cI, 10, .inl (preF f0 (fun j => fouV fm j (y - 1)) wk))), (r1, .inr (6, [.ref a1])), (a1, .inl (cI, 10, .inl (preF f1 (shP tg (fouA fm (y - 1) wk) (fun j => fouV fm j (y - 1))) (i + 1)))), (hm, .inr (4, [.ref rm])), (rm, .inr (6, [.ref am])), (am, .inl (cI, 800, .inl fm))] rfl rfl (by decide) (by decide) (fun _ => rfl) rfl gX0_share_X6_put (by decide +kernel) ⟨Nat.le_of_ble_eq_true rfl, Nat.le_of_ble_eq_true rfl⟩ 0 rfl rfl rfl rfl rfl hl.1 (Nat.le_of_ble_eq_true rfl) ⟨Nat.le_of_ble_eq_true rfl, Nat.le_of_ble_eq_true rfl⟩ dX0_share_89 (fun u H locs hw89 hH => ?_)
              obtain ⟨u22, rfl⟩ : ∃ z, z = u := ⟨_, rfl⟩
              obtain rfl : u22 = rPut 10 (preF f2 (shC tg (fouA fm (y - 1) wk) (fun j => fouV fm j (y - 1))) i) (nI i) ((tg * (fouV fm i (y - 1))) - (tg * (fouV fm i (y - 1))) / (fouA fm (y - 1) wk) * (fouA fm (y - 1) wk)) := hw89
              have hH := (hH : fx_H zA zs.heap H locs D [(h, .inr (0, [.ref r0, .ref r1, .ref r2])), (r0, .inr (6, [.ref a0])), (a0, .inl (cI, 10, .inl (preF f0 (fun j => fouV fm j (y - 1)) wk))), (r1, .inr (6, [.ref a1])), (a1, .inl (cI, 10, .inl (preF f1 (shP tg (fouA fm (y - 1) wk) (fun j => fouV fm j (y - 1))) (i + 1)))), (r2, .inr (6, [.ref a2])), (a2, .inl (cI, 10, .inl (rPut 10 (preF f2 (shC tg (fouA fm (y - 1) wk) (fun j => fouV fm j (y - 1))) i) (nI i) ((tg * (fouV fm i (y - 1))) - (tg * (fouV fm i (y - 1))) / (fouA fm (y - 1) wk) * (fouA fm (y - 1) wk))))), (hm, .inr (4, [.ref rm])), (rm, .inr (6, [.ref am])), (am, .inl (cI, 800, .inl fm))])
              rw [show (rPut 10 (preF f2 (shC tg (fouA fm (y - 1) wk) (fun j => fouV fm j (y - 1))) i) (nI i) ((tg * (fouV fm i (y - 1))) - (tg * (fouV fm i (y - 1))) / (fouA fm (y - 1) wk) * (fouA fm (y - 1) wk)) : Nat → Int32) = preF f2 (shC tg (fouA fm (y - 1) wk) (fun j => fouV fm j (y - 1))) (i + 1) from by first | exact preF_put (by omega) (by omega) (if_pos c77).symm | exact preF_put (by omega) (by omega) (if_neg c77).symm] at hH
              refine lv_iload zx zy dX0_share_92 (lv_at hl 7 rfl) ?_
              refine lv_aload_n zx zy dX0_share_94 rfl (lv_at hl 1 rfl) ?_
              refine fx_get (C := RX0) (T := TX0) (N := 3) hC (fun _ h => List.mem_cons_of_mem _ (List.mem_append_left _ (List.mem_append_left _ (List.mem_append_right _ h)))) hH 0 rfl rfl 1 (by decide) (by decide +kernel) rfl dX0_share_95 ?_
              refine lv_iload zx zy dX0_share_98 (lv_at hl 8 rfl) ?_
              refine fx_cVi (n := 1) (As := [.int (nI i)]) (b := r1) (rest := [.int gv]) (fun (u : Unit) => [(h, .inr (0, [.ref r0, .ref r1, .ref r2])), (r0, .inr (6, [.ref a0])), (a0, .inl (cI, 10, .inl (preF f0 (fun j => fouV fm j (y - 1)) wk))), (r1, .inr (6, [.ref a1])), (a1, .inl (cI, 10, .inl (preF f1 (shP tg (fouA fm (y - 1) wk) (fun j => fouV fm j (y - 1))) (i + 1)))), (r2, .inr (6, [.ref a2])), (a2, .inl (cI, 10, .inl (preF f2 (shC tg (fouA fm (y - 1) wk) (fun j => fouV fm j (y - 1))) (i + 1)))), (hm, .inr (4, [.ref rm])), (rm, .inr (6, [.ref am])), (am, .inl (cI, 800, .inl fm))]) hC hA hH (k_X6_at l D cI cZ r1 a1 10 (preF f1 (shP tg (fouA fm (y - 1) wk) (fun j => fouV fm j (y - 1))) (i + 1)) (nI i) (by first | assumption | omega)) [3, 4] [0, 1, 2, 5, 6, 7, 8, 9] [0, 1, 2, 8, 9, 3, 4, 5, 6, 7] [(h, .inr (0, [.ref r0, .ref r1, .ref r2])), (r0, .inr (6, [.ref a0])), (a0, .inl (cI, 10, .inl (preF f0 (fun j => fouV fm j (y - 1)) wk))), (r2, .inr (6, [.ref a2])), (a2, .inl (cI, 10, .inl (preF f2 (shC tg (fouA fm (y - 1) wk) (fun j => fouV fm j (y - 1))) (i + 1)))), (hm, .inr (4, [.ref rm])), (rm, .inr (6, [.ref am])), (am, .inl (cI, 800, .inl fm))] rfl rfl (by decide) (by decide) (fun _ => rfl) rfl gX0_share_X6_at (by decide +kernel) ⟨Nat.le_of_ble_eq_true rfl, Nat.le_of_ble_eq_true rfl⟩ 0 rfl rfl rfl rfl rfl hl.1 (Nat.le_of_ble_eq_true rfl) ⟨Nat.le_of_ble_eq_true rfl, Nat.le_of_ble_eq_true rfl⟩ dX0_share_100 (fun r23 u H locs hw100 hH => ?_)
              obtain rfl : r23 = rAt 10 (preF f1 (shP tg (fouA fm (y - 1) wk) (fun j => fouV fm j (y - 1))) (i + 1)) (nI i) := hw100
              have hH := (hH : fx_H zA zs.heap H locs D [(h, .inr (0, [.ref r0, .ref r1, .ref r2])), (r0, .inr (6, [.ref a0])), (a0, .inl (cI, 10, .inl (preF f0 (fun j => fouV fm j (y - 1)) wk))), (r1, .inr (6, [.ref a1])), (a1, .inl (cI, 10, .inl (preF f1 (shP tg (fouA fm (y - 1) wk) (fun j => fouV fm j (y - 1))) (i + 1)))), (r2, .inr (6, [.ref a2])), (a2, .inl (cI, 10, .inl (preF f2 (shC tg (fouA fm (y - 1) wk) (fun j => fouV fm j (y - 1))) (i + 1)))), (hm, .inr (4, [.ref rm])), (rm, .inr (6, [.ref am])), (am, .inl (cI, 800, .inl fm))])
              refine lv_topi (fun v24 ev24 => ?_)
              obtain rfl : v24 = shP tg (fouA fm (y - 1) wk) (fun j => fouV fm j (y - 1)) i := ev24.trans (preF_at (by omega) (by omega) (by omega))
              refine lv_iadd zx zy dX0_share_103 ?_
              refine lv_istore (lv' := [(6, .int (gv + (shP tg (fouA fm (y - 1) wk) (fun j => fouV fm j (y - 1)) i))), (8, .int (tg * (fouV fm i (y - 1)))), (0, .ref h), (1, .int tg), (2, .ref hm), (3, .int (nI wk)), (4, .int (nI y)), (5, .int (fouA fm (y - 1) wk)), (7, .int (nI i))]) zx zy dX0_share_104 hl (by decide) rfl (fun ls hl => ?_)
              refine lv_iinc (v := nI (i + 1)) (lv' := [(7, .int (nI (i + 1))), (6, .int (gv + (shP tg (fouA fm (y - 1) wk) (fun j => fouV fm j (y - 1)) i))), (8, .int (tg * (fouV fm i (y - 1)))), (0, .ref h), (1, .int tg), (2, .ref hm), (3, .int (nI wk)), (4, .int (nI y)), (5, .int (fouA fm (y - 1) wk))]) zx zy dX0_share_106 hl (k := 8) rfl (nI_1 _) (by decide) rfl (fun ls hl => ?_)
              refine lv_goto (tgt := 27) zx zy dX0_share_109 (by decide) ?_
              exact ih27 (i + 1) (gv + (shP tg (fouA fm (y - 1) wk) (fun j => fouV fm j (y - 1)) i)) (by first | assumption | omega) (by subst hgv; rfl) _ _ _ (by omega) hH (lv_sub hl [3, 4, 5, 6, 7, 8, 1, 0] rfl)
          · skip
            refine lv_iload zx zy dX0_share_57 (lv_at hl 0 rfl) ?_
            refine lv_iload zx zy dX0_share_59 (lv_at hl 6 rfl) ?_
            refine lv_idiv zx zy dX0_share_61 (fun h => c54 (by rw [h]; decide)) ?_
            refine lv_goto (tgt := 66) zx zy dX0_share_62 (by decide) ?_
            refine fx_cVv (n := 2) (As := [.int (nI i), .int ((tg * (fouV fm i (y - 1))) / (fouA fm (y - 1) wk))]) (b := r1) (rest := []) (fun (u : (Nat → Int32)) => [(h, .inr (0, [.ref r0, .ref r1, .ref r2])), (r0, .inr (6, [.ref a0])), (a0, .inl (cI, 10, .inl (preF f0 (fun j => fouV fm j (y - 1)) wk))), (r1, .inr (6, [.ref a1])), (a1, .inl (cI, 10, .inl u)), (r2, .inr (6, [.ref a2])), (a2, .inl (cI, 10, .inl (preF f2 (shC tg (fouA fm (y - 1) wk) (fun j => fouV fm j (y - 1))) i))), (hm, .inr (4, [.ref rm])), (rm, .inr (6, [.ref am])), (am, .inl (cI, 800, .inl fm))]) hC hA hH (k_X6_put l D cI cZ r1 a1 10 (preF f1 (shP tg (fouA fm (y - 1) wk) (fun j => fouV fm j (y - 1))) i) (nI i) ((tg * (fouV fm i (y - 1))) / (fouA fm (y - 1) wk)) (by first | assumption | omega)) [3, 4] [0, 1, 2, 5, 6, 7, 8, 9] [0, 1, 2, 8, 9, 3, 4, 5, 6, 7] [(h, .inr (0, [.ref r0, .ref r1, .ref r2])), (r0, .inr (6, [.ref a0])), (a0, .inl (cI, 10, .inl (preF f0 (fun j => fouV fm j (y - 1)) wk))), (r2, .inr (6, [.ref a2])), (a2, .inl (cI, 10, .inl (preF f2 (shC tg (fouA fm (y - 1) wk) (fun j => fouV fm j (y - 1))) i))), (hm, .inr (4, [.ref rm])), (rm, .inr (6, [.ref am])), (am, .inl (cI, 800, .inl fm))] rfl rfl (by decide) (by decide) (fun _ => rfl) rfl gX0_share_X6_put (by decide +kernel) ⟨Nat.le_of_ble_eq_true rfl, Nat.le_of_ble_eq_true rfl⟩ 0 rfl rfl rfl rfl rfl hl.1 (Nat.le_of_ble_eq_true rfl) ⟨Nat.le_of_ble_eq_true rfl, Nat.le_of_ble_eq_true rfl⟩ dX0_share_66 (fun u H locs hw66 hH => ?_)
            obtain ⟨u26, rfl⟩ : ∃ z, z = u := ⟨_, rfl⟩
            obtain rfl : u26 = rPut 10 (preF f1 (shP tg (fouA fm (y - 1) wk) (fun j => fouV fm j (y - 1))) i) (nI i) ((tg * (fouV fm i (y - 1))) / (fouA fm (y - 1) wk)) := hw66
            have hH := (hH : fx_H zA zs.heap H locs D [(h, .inr (0, [.ref r0, .ref r1, .ref r2])), (r0, .inr (6, [.ref a0])), (a0, .inl (cI, 10, .inl (preF f0 (fun j => fouV fm j (y - 1)) wk))), (r1, .inr (6, [.ref a1])), (a1, .inl (cI, 10, .inl (rPut 10 (preF f1 (shP tg (fouA fm (y - 1) wk) (fun j => fouV fm j (y - 1))) i) (nI i) ((tg * (fouV fm i (y - 1))) / (fouA fm (y - 1) wk))))), (r2, .inr (6, [.ref a2])), (a2, .inl (cI, 10, .inl (preF f2 (shC tg (fouA fm (y - 1) wk) (fun j => fouV fm j (y - 1))) i))), (hm, .inr (4, [.ref rm])), (rm, .inr (6, [.ref am])), (am, .inl (cI, 800, .inl fm))])
            rw [show (rPut 10 (preF f1 (shP tg (fouA fm (y - 1) wk) (fun j => fouV fm j (y - 1))) i) (nI i) ((tg * (fouV fm i (y - 1))) / (fouA fm (y - 1) wk)) : Nat → Int32) = preF f1 (shP tg (fouA fm (y - 1) wk) (fun j => fouV fm j (y - 1))) (i + 1) from by first | exact preF_put (by omega) (by omega) (if_pos c54).symm | exact preF_put (by omega) (by omega) (if_neg c54).symm] at hH
            refine lv_aload_n zx zy dX0_share_69 rfl (lv_at hl 1 rfl) ?_
            refine fx_get (C := RX0) (T := TX0) (N := 3) hC (fun _ h => List.mem_cons_of_mem _ (List.mem_append_left _ (List.mem_append_left _ (List.mem_append_right _ h)))) hH 0 rfl rfl 2 (by decide) (by decide +kernel) rfl dX0_share_70 ?_
            refine lv_iload zx zy dX0_share_73 (lv_at hl 8 rfl) ?_
            refine lv_iload zx zy dX0_share_75 (lv_at hl 6 rfl) ?_
            refine lv_if_le (tgt := 88) zx zy dX0_share_77 (by decide) (fun c77 => ?_) (fun c77 => ?_)
            · skip
              refine lv_iconst (v := 0) zx zy dX0_share_88 (by decide) ?_
              refine fx_cVv (n := 2) (As := [.int (nI i), .int 0]) (b := r2) (rest := []) (fun (u : (Nat → Int32)) => [(h, .inr (0, [.ref r0, .ref r1, .ref r2])), (r0, .inr (6, [.ref a0])), (a0, .inl (cI, 10, .inl (preF f0 (fun j => fouV fm j (y - 1)) wk))), (r1, .inr (6, [.ref a1])), (a1, .inl (cI, 10, .inl (preF f1 (shP tg (fouA fm (y - 1) wk) (fun j => fouV fm j (y - 1))) (i + 1)))), (r2, .inr (6, [.ref a2])), (a2, .inl (cI, 10, .inl u)), (hm, .inr (4, [.ref rm])), (rm, .inr (6, [.ref am])), (am, .inl (cI, 800, .inl fm))]) hC hA hH (k_X6_put l D cI cZ r2 a2 10 (preF f2 (shC tg (fouA fm (y - 1) wk) (fun j => fouV fm j (y - 1))) i) (nI i) 0 (by first | assumption | omega)) [5, 6] [0, 1, 2, 3, 4, 7, 8, 9] [0, 1, 2, 3, 4, 8, 9, 5, 6, 7] [(h, .inr (0, [.ref r0, .ref r1, .ref r2])), (r0, .inr (6, [.ref a0])), (a0, .inl (cI, 10, .inl (preF f0 (fun j => fouV fm j (y - 1)) wk))), (r1, .inr (6, [.ref a1])), (a1, .inl (cI, 10, .inl (preF f1 (shP tg (fouA fm (y - 1) wk) (fun j => fouV fm j (y - 1))) (i + 1)))), (hm, .inr (4, [.ref rm])), (rm, .inr (6, [.ref am])), (am, .inl (cI, 800, .inl fm))] rfl rfl (by decide) (by decide) (fun _ => rfl) rfl gX0_share_X6_put (by decide +kernel) ⟨Nat.le_of_ble_eq_true rfl, Nat.le_of_ble_eq_true rfl⟩ 0 rfl rfl rfl rfl rfl hl.1 (Nat.le_of_ble_eq_true rfl) ⟨Nat.le_of_ble_eq_true rfl, Nat.le_of_ble_eq_true rfl⟩ dX0_share_89 (fun u H locs hw89 hH => ?_)
              obtain ⟨u28, rfl⟩ : ∃ z, z = u := ⟨_, rfl⟩
              obtain rfl : u28 = rPut 10 (preF f2 (shC tg (fouA fm (y - 1) wk) (fun j => fouV fm j (y - 1))) i) (nI i) 0 := hw89
              have hH := (hH : fx_H zA zs.heap H locs D [(h, .inr (0, [.ref r0, .ref r1, .ref r2])), (r0, .inr (6, [.ref a0])), (a0, .inl (cI, 10, .inl (preF f0 (fun j => fouV fm j (y - 1)) wk))), (r1, .inr (6, [.ref a1])), (a1, .inl (cI, 10, .inl (preF f1 (shP tg (fouA fm (y - 1) wk) (fun j => fouV fm j (y - 1))) (i + 1)))), (r2, .inr (6, [.ref a2])), (a2, .inl (cI, 10, .inl (rPut 10 (preF f2 (shC tg (fouA fm (y - 1) wk) (fun j => fouV fm j (y - 1))) i) (nI i) 0))), (hm, .inr (4, [.ref rm])), (rm, .inr (6, [.ref am])), (am, .inl (cI, 800, .inl fm))])
              rw [show (rPut 10 (preF f2 (shC tg (fouA fm (y - 1) wk) (fun j => fouV fm j (y - 1))) i) (nI i) 0 : Nat → Int32) = preF f2 (shC tg (fouA fm (y - 1) wk) (fun j => fouV fm j (y - 1))) (i + 1) from by first | exact preF_put (by omega) (by omega) (if_pos c77).symm | exact preF_put (by omega) (by omega) (if_neg c77).symm] at hH
              refine lv_iload zx zy dX0_share_92 (lv_at hl 7 rfl) ?_
              refine lv_aload_n zx zy dX0_share_94 rfl (lv_at hl 1 rfl) ?_
              refine fx_get (C := RX0) (T := TX0) (N := 3) hC (fun _ h => List.mem_cons_of_mem _ (List.mem_append_left _ (List.mem_append_left _ (List.mem_append_right _ h)))) hH 0 rfl rfl 1 (by decide) (by decide +kernel) rfl dX0_share_95 ?_
              refine lv_iload zx zy dX0_share_98 (lv_at hl 8 rfl) ?_
              refine fx_cVi (n := 1) (As := [.int (nI i)]) (b := r1) (rest := [.int gv]) (fun (u : Unit) => [(h, .inr (0, [.ref r0, .ref r1, .ref r2])), (r0, .inr (6, [.ref a0])), (a0, .inl (cI, 10, .inl (preF f0 (fun j => fouV fm j (y - 1)) wk))), (r1, .inr (6, [.ref a1])), (a1, .inl (cI, 10, .inl (preF f1 (shP tg (fouA fm (y - 1) wk) (fun j => fouV fm j (y - 1))) (i + 1)))), (r2, .inr (6, [.ref a2])), (a2, .inl (cI, 10, .inl (preF f2 (shC tg (fouA fm (y - 1) wk) (fun j => fouV fm j (y - 1))) (i + 1)))), (hm, .inr (4, [.ref rm])), (rm, .inr (6, [.ref am])), (am, .inl (cI, 800, .inl fm))]) hC hA hH (k_X6_at l D cI cZ r1 a1 10 (preF f1 (shP tg (fouA fm (y - 1) wk) (fun j => fouV fm j (y - 1))) (i + 1)) (nI i) (by first | assumption | omega)) [3, 4] [0, 1, 2, 5, 6, 7, 8, 9] [0, 1, 2, 8, 9, 3, 4, 5, 6, 7] [(h, .inr (0, [.ref r0, .ref r1, .ref r2])), (r0, .inr (6, [.ref a0])), (a0, .inl (cI, 10, .inl (preF f0 (fun j => fouV fm j (y - 1)) wk))), (r2, .inr (6, [.ref a2])), (a2, .inl (cI, 10, .inl (preF f2 (shC tg (fouA fm (y - 1) wk) (fun j => fouV fm j (y - 1))) (i + 1)))), (hm, .inr (4, [.ref rm])), (rm, .inr (6, [.ref am])), (am, .inl (cI, 800, .inl fm))] rfl rfl (by decide) (by decide) (fun _ => rfl) rfl gX0_share_X6_at (by decide +kernel) ⟨Nat.le_of_ble_eq_true rfl, Nat.le_of_ble_eq_true rfl⟩ 0 rfl rfl rfl rfl rfl hl.1 (Nat.le_of_ble_eq_true rfl) ⟨Nat.le_of_ble_eq_true rfl, Nat.le_of_ble_eq_true rfl⟩ dX0_share_100 (fun r29 u H locs hw100 hH => ?_)
              obtain rfl : r29 = rAt 10 (preF f1 (shP tg (fouA fm (y - 1) wk) (fun j => fouV fm j (y - 1))) (i + 1)) (nI i) := hw100
              have hH := (hH : fx_H zA zs.heap H locs D [(h, .inr (0, [.ref r0, .ref r1, .ref r2])), (r0, .inr (6, [.ref a0])), (a0, .inl (cI, 10, .inl (preF f0 (fun j => fouV fm j (y - 1)) wk))), (r1, .inr (6, [.ref a1])), (a1, .inl (cI, 10, .inl (preF f1 (shP tg (fouA fm (y - 1) wk) (fun j => fouV fm j (y - 1))) (i + 1)))), (r2, .inr (6, [.ref a2])), (a2, .inl (cI, 10, .inl (preF f2 (shC tg (fouA fm (y - 1) wk) (fun j => fouV fm j (y - 1))) (i + 1)))), (hm, .inr (4, [.ref rm])), (rm, .inr (6, [.ref am])), (am, .inl (cI, 800, .inl fm))])
              refine lv_topi (fun v30 ev30 => ?_)
              obtain rfl : v30 = shP tg (fouA fm (y - 1) wk) (fun j => fouV fm j (y - 1)) i := ev30.trans (preF_at (by omega) (by omega) (by omega))
              refine lv_iadd zx zy dX0_share_103 ?_
              refine lv_istore (lv' := [(6, .int (gv + (shP tg (fouA fm (y - 1) wk) (fun j => fouV fm j (y - 1)) i))), (8, .int (tg * (fouV fm i (y - 1)))), (0, .ref h), (1, .int tg), (2, .ref hm), (3, .int (nI wk)), (4, .int (nI y)), (5, .int (fouA fm (y - 1) wk)), (7, .int (nI i))]) zx zy dX0_share_104 hl (by decide) rfl (fun ls hl => ?_)
              refine lv_iinc (v := nI (i + 1)) (lv' := [(7, .int (nI (i + 1))), (6, .int (gv + (shP tg (fouA fm (y - 1) wk) (fun j => fouV fm j (y - 1)) i))), (8, .int (tg * (fouV fm i (y - 1)))), (0, .ref h), (1, .int tg), (2, .ref hm), (3, .int (nI wk)), (4, .int (nI y)), (5, .int (fouA fm (y - 1) wk))]) zx zy dX0_share_106 hl (k := 8) rfl (nI_1 _) (by decide) rfl (fun ls hl => ?_)
              refine lv_goto (tgt := 27) zx zy dX0_share_109 (by decide) ?_
              exact ih27 (i + 1) (gv + (shP tg (fouA fm (y - 1) wk) (fun j => fouV fm j (y - 1)) i)) (by first | assumption | omega) (by subst hgv; rfl) _ _ _ (by omega) hH (lv_sub hl [3, 4, 5, 6, 7, 8, 1, 0] rfl)
            · skip
              refine lv_iload zx zy dX0_share_80 (lv_at hl 0 rfl) ?_
              refine lv_iload zx zy dX0_share_82 (lv_at hl 6 rfl) ?_
              refine lv_irem zx zy dX0_share_84 (fun h => c77 (by rw [h]; decide)) ?_
              refine lv_goto (tgt := 89) zx zy dX0_share_85 (by decide) ?_
              refine fx_cVv (n := 2) (As := [.int (nI i), .int ((tg * (fouV fm i (y - 1))) - (tg * (fouV fm i (y - 1))) / (fouA fm (y - 1) wk) * (fouA fm (y - 1) wk))]) (b := r2) (rest := []) (fun (u : (Nat → Int32)) => [(h, .inr (0, [.ref r0, .ref r1, .ref r2])), (r0, .inr (6, [.ref a0])), (a0, .inl (cI, 10, .inl (preF f0 (fun j => fouV fm j (y - 1)) wk))), (r1, .inr (6, [.ref a1])), (a1, .inl (cI, 10, .inl (preF f1 (shP tg (fouA fm (y - 1) wk) (fun j => fouV fm j (y - 1))) (i + 1)))), (r2, .inr (6, [.ref a2])), (a2, .inl (cI, 10, .inl u)), (hm, .inr (4, [.ref rm])), (rm, .inr (6, [.ref am])), (am, .inl (cI, 800, .inl fm))]) hC hA hH (k_X6_put l D cI cZ r2 a2 10 (preF f2 (shC tg (fouA fm (y - 1) wk) (fun j => fouV fm j (y - 1))) i) (nI i) ((tg * (fouV fm i (y - 1))) - (tg * (fouV fm i (y - 1))) / (fouA fm (y - 1) wk) * (fouA fm (y - 1) wk)) (by first | assumption | omega)) [5, 6] [0, 1, 2, 3, 4, 7, 8, 9] [0, 1, 2, 3, 4, 8, 9, 5, 6, 7] [(h, .inr (0, [.ref r0, .ref r1, .ref r2])), (r0, .inr (6, [.ref a0])), (a0, .inl (cI, 10, .inl (preF f0 (fun j => fouV fm j (y - 1)) wk))), (r1, .inr (6, [.ref a1])), (a1, .inl (cI, 10, .inl (preF f1 (shP tg (fouA fm (y - 1) wk) (fun j => fouV fm j (y - 1))) (i + 1)))), (hm, .inr (4, [.ref rm])), (rm, .inr (6, [.ref am])), (am, .inl (cI, 800, .inl fm))] rfl rfl (by decide) (by decide) (fun _ => rfl) rfl gX0_share_X6_put (by decide +kernel) ⟨Nat.le_of_ble_eq_true rfl, Nat.le_of_ble_eq_true rfl⟩ 0 rfl rfl rfl rfl rfl hl.1 (Nat.le_of_ble_eq_true rfl) ⟨Nat.le_of_ble_eq_true rfl, Nat.le_of_ble_eq_true rfl⟩ dX0_share_89 (fun u H locs hw89 hH => ?_)
              obtain ⟨u32, rfl⟩ : ∃ z, z = u := ⟨_, rfl⟩
              obtain rfl : u32 = rPut 10 (preF f2 (shC tg (fouA fm (y - 1) wk) (fun j => fouV fm j (y - 1))) i) (nI i) ((tg * (fouV fm i (y - 1))) - (tg * (fouV fm i (y - 1))) / (fouA fm (y - 1) wk) * (fouA fm (y - 1) wk)) := hw89
              have hH := (hH : fx_H zA zs.heap H locs D [(h, .inr (0, [.ref r0, .ref r1, .ref r2])), (r0, .inr (6, [.ref a0])), (a0, .inl (cI, 10, .inl (preF f0 (fun j => fouV fm j (y - 1)) wk))), (r1, .inr (6, [.ref a1])), (a1, .inl (cI, 10, .inl (preF f1 (shP tg (fouA fm (y - 1) wk) (fun j => fouV fm j (y - 1))) (i + 1)))), (r2, .inr (6, [.ref a2])), (a2, .inl (cI, 10, .inl (rPut 10 (preF f2 (shC tg (fouA fm (y - 1) wk) (fun j => fouV fm j (y - 1))) i) (nI i) ((tg * (fouV fm i (y - 1))) - (tg * (fouV fm i (y - 1))) / (fouA fm (y - 1) wk) * (fouA fm (y - 1) wk))))), (hm, .inr (4, [.ref rm])), (rm, .inr (6, [.ref am])), (am, .inl (cI, 800, .inl fm))])
              rw [show (rPut 10 (preF f2 (shC tg (fouA fm (y - 1) wk) (fun j => fouV fm j (y - 1))) i) (nI i) ((tg * (fouV fm i (y - 1))) - (tg * (fouV fm i (y - 1))) / (fouA fm (y - 1) wk) * (fouA fm (y - 1) wk)) : Nat → Int32) = preF f2 (shC tg (fouA fm (y - 1) wk) (fun j => fouV fm j (y - 1))) (i + 1) from by first | exact preF_put (by omega) (by omega) (if_pos c77).symm | exact preF_put (by omega) (by omega) (if_neg c77).symm] at hH
              refine lv_iload zx zy dX0_share_92 (lv_at hl 7 rfl) ?_
              refine lv_aload_n zx zy dX0_share_94 rfl (lv_at hl 1 rfl) ?_
              refine fx_get (C := RX0) (T := TX0) (N := 3) hC (fun _ h => List.mem_cons_of_mem _ (List.mem_append_left _ (List.mem_append_left _ (List.mem_append_right _ h)))) hH 0 rfl rfl 1 (by decide) (by decide +kernel) rfl dX0_share_95 ?_
              refine lv_iload zx zy dX0_share_98 (lv_at hl 8 rfl) ?_
              refine fx_cVi (n := 1) (As := [.int (nI i)]) (b := r1) (rest := [.int gv]) (fun (u : Unit) => [(h, .inr (0, [.ref r0, .ref r1, .ref r2])), (r0, .inr (6, [.ref a0])), (a0, .inl (cI, 10, .inl (preF f0 (fun j => fouV fm j (y - 1)) wk))), (r1, .inr (6, [.ref a1])), (a1, .inl (cI, 10, .inl (preF f1 (shP tg (fouA fm (y - 1) wk) (fun j => fouV fm j (y - 1))) (i + 1)))), (r2, .inr (6, [.ref a2])), (a2, .inl (cI, 10, .inl (preF f2 (shC tg (fouA fm (y - 1) wk) (fun j => fouV fm j (y - 1))) (i + 1)))), (hm, .inr (4, [.ref rm])), (rm, .inr (6, [.ref am])), (am, .inl (cI, 800, .inl fm))]) hC hA hH (k_X6_at l D cI cZ r1 a1 10 (preF f1 (shP tg (fouA fm (y - 1) wk) (fun j => fouV fm j (y - 1))) (i + 1)) (nI i) (by first | assumption | omega)) [3, 4] [0, 1, 2, 5, 6, 7, 8, 9] [0, 1, 2, 8, 9, 3, 4, 5, 6, 7] [(h, .inr (0, [.ref r0, .ref r1, .ref r2])), (r0, .inr (6, [.ref a0])), (a0, .inl (cI, 10, .inl (preF f0 (fun j => fouV fm j (y - 1)) wk))), (r2, .inr (6, [.ref a2])), (a2, .inl (cI, 10, .inl (preF f2 (shC tg (fouA fm (y - 1) wk) (fun j => fouV fm j (y - 1))) (i + 1)))), (hm, .inr (4, [.ref rm])), (rm, .inr (6, [.ref am])), (am, .inl (cI, 800, .inl fm))] rfl rfl (by decide) (by decide) (fun _ => rfl) rfl gX0_share_X6_at (by decide +kernel) ⟨Nat.le_of_ble_eq_true rfl, Nat.le_of_ble_eq_true rfl⟩ 0 rfl rfl rfl rfl rfl hl.1 (Nat.le_of_ble_eq_true rfl) ⟨Nat.le_of_ble_eq_true rfl, Nat.le_of_ble_eq_true rfl⟩ dX0_share_100 (fun r33 u H locs hw100 hH => ?_)
              obtain rfl : r33 = rAt 10 (preF f1 (shP tg (fouA fm (y - 1) wk) (fun j => fouV fm j (y - 1))) (i + 1)) (nI i) := hw100
              have hH := (hH : fx_H zA zs.heap H locs D [(h, .inr (0, [.ref r0, .ref r1, .ref r2])), (r0, .inr (6, [.ref a0])), (a0, .inl (cI, 10, .inl (preF f0 (fun j => fouV fm j (y - 1)) wk))), (r1, .inr (6, [.ref a1])), (a1, .inl (cI, 10, .inl (preF f1 (shP tg (fouA fm (y - 1) wk) (fun j => fouV fm j (y - 1))) (i + 1)))), (r2, .inr (6, [.ref a2])), (a2, .inl (cI, 10, .inl (preF f2 (shC tg (fouA fm (y - 1) wk) (fun j => fouV fm j (y - 1))) (i + 1)))), (hm, .inr (4, [.ref rm])), (rm, .inr (6, [.ref am])), (am, .inl (cI, 800, .inl fm))])
              refine lv_topi (fun v34 ev34 => ?_)
              obtain rfl : v34 = shP tg (fouA fm (y - 1) wk) (fun j => fouV fm j (y - 1)) i := ev34.trans (preF_at (by omega) (by omega) (by omega))
              refine lv_iadd zx zy dX0_share_103 ?_
              refine lv_istore (lv' := [(6, .int (gv + (shP tg (fouA fm (y - 1) wk) (fun j => fouV fm j (y - 1)) i))), (8, .int (tg * (fouV fm i (y - 1)))), (0, .ref h), (1, .int tg), (2, .ref hm), (3, .int (nI wk)), (4, .int (nI y)), (5, .int (fouA fm (y - 1) wk)), (7, .int (nI i))]) zx zy dX0_share_104 hl (by decide) rfl (fun ls hl => ?_)
              refine lv_iinc (v := nI (i + 1)) (lv' := [(7, .int (nI (i + 1))), (6, .int (gv + (shP tg (fouA fm (y - 1) wk) (fun j => fouV fm j (y - 1)) i))), (8, .int (tg * (fouV fm i (y - 1)))), (0, .ref h), (1, .int tg), (2, .ref hm), (3, .int (nI wk)), (4, .int (nI y)), (5, .int (fouA fm (y - 1) wk))]) zx zy dX0_share_106 hl (k := 8) rfl (nI_1 _) (by decide) rfl (fun ls hl => ?_)
              refine lv_goto (tgt := 27) zx zy dX0_share_109 (by decide) ?_
              exact ih27 (i + 1) (gv + (shP tg (fouA fm (y - 1) wk) (fun j => fouV fm j (y - 1)) i)) (by first | assumption | omega) (by subst hgv; rfl) _ _ _ (by omega) hH (lv_sub hl [3, 4, 5, 6, 7, 8, 1, 0] rfl)
    exact L27 _ 0 0 (by first | assumption | omega) (rfl) _ _ _ (Nat.lt_succ_self _) (by rw [preF_0, preF_0]; exact hH) (lv_sub hl [3, 4, 5, 6, 7, 2, 1, 0] rfl)
  · skip
    have hy0 : y = 0 := (nI_eq (b := 0) (by omega) (by omega)).mp c2
    refine lv_iconst (v := 0) zx zy dX0_share_5 (by decide) ?_
    refine lv_goto (tgt := 19) zx zy dX0_share_6 (by decide) ?_
    refine lv_istore (lv' := [(5, .int 0), (0, .ref h), (1, .int tg), (2, .ref hm), (3, .int (nI wk)), (4, .int (nI y))]) zx zy dX0_share_19 hl (by decide) rfl (fun ls hl => ?_)
    refine lv_iconst (v := 0) zx zy dX0_share_21 (by decide) ?_
    refine lv_istore (lv' := [(6, .int 0), (5, .int 0), (0, .ref h), (1, .int tg), (2, .ref hm), (3, .int (nI wk)), (4, .int (nI y))]) zx zy dX0_share_22 hl (by decide) rfl (fun ls hl => ?_)
    refine lv_iconst (v := 0) zx zy dX0_share_24 (by decide) ?_
    refine lv_topi (fun v35 ev35 => ?_)
    obtain rfl : v35 = nI 0 := ev35.trans (rfl)
    refine lv_istore (lv' := [(7, .int (nI 0)), (6, .int 0), (5, .int 0), (0, .ref h), (1, .int tg), (2, .ref hm), (3, .int (nI wk)), (4, .int (nI y))]) zx zy dX0_share_25 hl (by decide) rfl (fun ls hl => ?_)
    have L27 : ∀ (fu : Nat) (i : Nat) (gv : Int32) (hi : i ≤ wk) (hgv : gv = shS (shP tg 0 f0) i) (H : Heap) (locs : List Loc) (ls : Array Slot), wk - i < fu → fx_H zA zs.heap H locs D [(h, .inr (0, [.ref r0, .ref r1, .ref r2])), (r0, .inr (6, [.ref a0])), (a0, .inl (cI, 10, .inl f0)), (r1, .inr (6, [.ref a1])), (a1, .inl (cI, 10, .inl (preF f1 (shP tg 0 f0) i))), (r2, .inr (6, [.ref a2])), (a2, .inl (cI, 10, .inl (preF f2 (shC tg 0 f0) i))), (hm, .inr (4, [.ref rm])), (rm, .inr (6, [.ref am])), (am, .inl (cI, 800, .inl fm))] → lv_has ls 9 [(0, .ref h), (1, .int tg), (2, .ref hm), (3, .int (nI wk)), (4, .int (nI y)), (5, .int 0), (6, .int gv), (7, .int (nI i))] → W zp l ze ({ frames := 5, cells := 0, slots := 0, locals := 122 }) zs zm za zb zt zc H locs (0) (0) zQ (F0 zm 27 ls []) := by
      intro fu
      induction fu with
      | zero => intro i gv hi hgv H locs ls hfu; exact absurd hfu (Nat.not_lt_zero _)
      | succ fu ih27 =>
        intro i gv hi hgv H locs ls hfu27 hH hl
        refine lv_iload zx zy dX0_share_27 (lv_at hl 7 rfl) ?_
        refine lv_iload_n zx zy dX0_share_29 rfl (lv_at hl 3 rfl) ?_
        refine lv_icmp_ge (tgt := 112) zx zy dX0_share_30 (by decide) (fun c30 => ?_) (fun c30 => ?_)
        · skip
          have hiw : i = wk := Nat.le_antisymm hi (fx_le_of c30 (by omega) (by omega))
          refine lv_iload zx zy dX0_share_112 (lv_at hl 5 rfl) ?_
          refine lv_if_le (tgt := 128) zx zy dX0_share_114 (by decide) (fun c114 => ?_) (fun c114 => ?_)
          · skip
            refine lv_iconst (v := 0) zx zy dX0_share_128 (by decide) ?_
            exact fx_iret (v := 0) hQ hC hr hlk hH dX0_share_129 rfl (Nat.le_of_ble_eq_true rfl) (Nat.le_of_ble_eq_true rfl) ((f0, preF f1 (shP tg 0 f0) i, preF f2 (shC tg 0 f0) i)) rfl (by subst hiw; first | exact Or.inl ⟨⟨Or.inl hy0, fun j hj => (if_pos hj).trans (if_pos c114)⟩, rfl⟩ | exact Or.inl ⟨⟨Or.inr c114, fun j hj => (if_pos hj).trans (if_pos c114)⟩, rfl⟩ | exact Or.inr ⟨⟨⟨by omega, c114⟩, by rw [hgv]; rfl⟩, by rw [hgv]; rfl⟩)
          · exact absurd c114 (by decide)
        · skip
          have hlt : i < wk := fx_lt_of c30 (by omega)
          refine lv_iload_n zx zy dX0_share_33 rfl (lv_at hl 1 rfl) ?_
          refine lv_aload_n zx zy dX0_share_34 rfl (lv_at hl 0 rfl) ?_
          refine fx_get (C := RX0) (T := TX0) (N := 3) hC (fun _ h => List.mem_cons_of_mem _ (List.mem_append_left _ (List.mem_append_left _ (List.mem_append_right _ h)))) hH 0 rfl rfl 0 (by decide) (by decide +kernel) rfl dX0_share_35 ?_
          refine lv_iload zx zy dX0_share_38 (lv_at hl 7 rfl) ?_
          refine fx_cVi (n := 1) (As := [.int (nI i)]) (b := r0) (rest := [.int tg]) (fun (u : Unit) => [(h, .inr (0, [.ref r0, .ref r1, .ref r2])), (r0, .inr (6, [.ref a0])), (a0, .inl (cI, 10, .inl f0)), (r1, .inr (6, [.ref a1])), (a1, .inl (cI, 10, .inl (preF f1 (shP tg 0 f0) i))), (r2, .inr (6, [.ref a2])), (a2, .inl (cI, 10, .inl (preF f2 (shC tg 0 f0) i))), (hm, .inr (4, [.ref rm])), (rm, .inr (6, [.ref am])), (am, .inl (cI, 800, .inl fm))]) hC hA hH (k_X6_at l D cI cZ r0 a0 10 f0 (nI i) (by first | assumption | omega)) [1, 2] [0, 3, 4, 5, 6, 7, 8, 9] [0, 8, 9, 1, 2, 3, 4, 5, 6, 7] [(h, .inr (0, [.ref r0, .ref r1, .ref r2])), (r1, .inr (6, [.ref a1])), (a1, .inl (cI, 10, .inl (preF f1 (shP tg 0 f0) i))), (r2, .inr (6, [.ref a2])), (a2, .inl (cI, 10, .inl (preF f2 (shC tg 0 f0) i))), (hm, .inr (4, [.ref rm])), (rm, .inr (6, [.ref am])), (am, .inl (cI, 800, .inl fm))] rfl rfl (by decide) (by decide) (fun _ => rfl) rfl gX0_share_X6_at (by decide +kernel) ⟨Nat.le_of_ble_eq_true rfl, Nat.le_of_ble_eq_true rfl⟩ 0 rfl rfl rfl rfl rfl hl.1 (Nat.le_of_ble_eq_true rfl) ⟨Nat.le_of_ble_eq_true rfl, Nat.le_of_ble_eq_true rfl⟩ dX0_share_40 (fun r36 u H locs hw40 hH => ?_)
          obtain rfl : r36 = rAt 10 f0 (nI i) := hw40
          have hH := (hH : fx_H zA zs.heap H locs D [(h, .inr (0, [.ref r0, .ref r1, .ref r2])), (r0, .inr (6, [.ref a0])), (a0, .inl (cI, 10, .inl f0)), (r1, .inr (6, [.ref a1])), (a1, .inl (cI, 10, .inl (preF f1 (shP tg 0 f0) i))), (r2, .inr (6, [.ref a2])), (a2, .inl (cI, 10, .inl (preF f2 (shC tg 0 f0) i))), (hm, .inr (4, [.ref rm])), (rm, .inr (6, [.ref am])), (am, .inl (cI, 800, .inl fm))])
          refine lv_topi (fun v37 ev37 => ?_)
          obtain rfl : v37 = f0 i := ev37.trans (rAt_nI (by omega) (by omega))
          refine lv_imul zx zy dX0_share_43 ?_
          refine lv_istore (lv' := [(8, .int (tg * (f0 i))), (0, .ref h), (1, .int tg), (2, .ref hm), (3, .int (nI wk)), (4, .int (nI y)), (5, .int 0), (6, .int gv), (7, .int (nI i))]) zx zy dX0_share_44 hl (by decide) rfl (fun ls hl => ?_)
          refine lv_aload_n zx zy dX0_share_46 rfl (lv_at hl 1 rfl) ?_
          refine fx_get (C := RX0) (T := TX0) (N := 3) hC (fun _ h => List.mem_cons_of_mem _ (List.mem_append_left _ (List.mem_append_left _ (List.mem_append_right _ h)))) hH 0 rfl rfl 1 (by decide) (by decide +kernel) rfl dX0_share_47 ?_
          refine lv_iload zx zy dX0_share_50 (lv_at hl 8 rfl) ?_
          refine lv_iload zx zy dX0_share_52 (lv_at hl 6 rfl) ?_
          refine lv_if_le (tgt := 65) zx zy dX0_share_54 (by decide) (fun c54 => ?_) (fun c54 => ?_)
          · skip
            refine lv_iconst (v := 0) zx zy dX0_share_65 (by decide) ?_
            refine fx_cVv (n := 2) (As := [.int (nI i), .int 0]) (b := r1) (rest := []) (fun (u : (Nat → Int32)) => [(h, .inr (0, [.ref r0, .ref r1, .ref r2])), (r0, .inr (6, [.ref a0])), (a0, .inl (cI, 10, .inl f0)), (r1, .inr (6, [.ref a1])), (a1, .inl (cI, 10, .inl u)), (r2, .inr (6, [.ref a2])), (a2, .inl (cI, 10, .inl (preF f2 (shC tg 0 f0) i))), (hm, .inr (4, [.ref rm])), (rm, .inr (6, [.ref am])), (am, .inl (cI, 800, .inl fm))]) hC hA hH (k_X6_put l D cI cZ r1 a1 10 (preF f1 (shP tg 0 f0) i) (nI i) 0 (by first | assumption | omega)) [3, 4] [0, 1, 2, 5, 6, 7, 8, 9] [0, 1, 2, 8, 9, 3, 4, 5, 6, 7] [(h, .inr (0, [.ref r0, .ref r1, .ref r2])), (r0, .inr (6, [.ref a0])), (a0, .inl (cI, 10, .inl f0)), (r2, .inr (6, [.ref a2])), (a2, .inl (cI, 10, .inl (preF f2 (shC tg 0 f0) i))), (hm, .inr (4, [.ref rm])), (rm, .inr (6, [.ref am])), (am, .inl (cI, 800, .inl fm))] rfl rfl (by decide) (by decide) (fun _ => rfl) rfl gX0_share_X6_put (by decide +kernel) ⟨Nat.le_of_ble_eq_true rfl, Nat.le_of_ble_eq_true rfl⟩ 0 rfl rfl rfl rfl rfl hl.1 (Nat.le_of_ble_eq_true rfl) ⟨Nat.le_of_ble_eq_true rfl, Nat.le_of_ble_eq_true rfl⟩ dX0_share_66 (fun u H locs hw66 hH => ?_)
            obtain ⟨u39, rfl⟩ : ∃ z, z = u := ⟨_, rfl⟩
            obtain rfl : u39 = rPut 10 (preF f1 (shP tg 0 f0) i) (nI i) 0 := hw66
            have hH := (hH : fx_H zA zs.heap H locs D [(h, .inr (0, [.ref r0, .ref r1, .ref r2])), (r0, .inr (6, [.ref a0])), (a0, .inl (cI, 10, .inl f0)), (r1, .inr (6, [.ref a1])), (a1, .inl (cI, 10, .inl (rPut 10 (preF f1 (shP tg 0 f0) i) (nI i) 0))), (r2, .inr (6, [.ref a2])), (a2, .inl (cI, 10, .inl (preF f2 (shC tg 0 f0) i))), (hm, .inr (4, [.ref rm])), (rm, .inr (6, [.ref am])), (am, .inl (cI, 800, .inl fm))])
            rw [show (rPut 10 (preF f1 (shP tg 0 f0) i) (nI i) 0 : Nat → Int32) = preF f1 (shP tg 0 f0) (i + 1) from by first | exact preF_put (by omega) (by omega) (if_pos c54).symm | exact preF_put (by omega) (by omega) (if_neg c54).symm] at hH
            refine lv_aload_n zx zy dX0_share_69 rfl (lv_at hl 1 rfl) ?_
            refine fx_get (C := RX0) (T := TX0) (N := 3) hC (fun _ h => List.mem_cons_of_mem _ (List.mem_append_left _ (List.mem_append_left _ (List.mem_append_right _ h)))) hH 0 rfl rfl 2 (by decide) (by decide +kernel) rfl dX0_share_70 ?_
            refine lv_iload zx zy dX0_share_73 (lv_at hl 8 rfl) ?_
            refine lv_iload zx zy dX0_share_75 (lv_at hl 6 rfl) ?_
            refine lv_if_le (tgt := 88) zx zy dX0_share_77 (by decide) (fun c77 => ?_) (fun c77 => ?_)
            · skip
              refine lv_iconst (v := 0) zx zy dX0_share_88 (by decide) ?_
              refine fx_cVv (n := 2) (As := [.int (nI i), .int 0]) (b := r2) (rest := []) (fun (u : (Nat → Int32)) => [(h, .inr (0, [.ref r0, .ref r1, .ref r2])), (r0, .inr (6, [.ref a0])), (a0, .inl (cI, 10, .inl f0)), (r1, .inr (6, [.ref a1])), (a1, .inl (cI, 10, .inl (preF f1 (shP tg 0 f0) (i + 1)))), (r2, .inr (6, [.ref a2])), (a2, .inl (cI, 10, .inl u)), (hm, .inr (4, [.ref rm])), (rm, .inr (6, [.ref am])), (am, .inl (cI, 800, .inl fm))]) hC hA hH (k_X6_put l D cI cZ r2 a2 10 (preF f2 (shC tg 0 f0) i) (nI i) 0 (by first | assumption | omega)) [5, 6] [0, 1, 2, 3, 4, 7, 8, 9] [0, 1, 2, 3, 4, 8, 9, 5, 6, 7] [(h, .inr (0, [.ref r0, .ref r1, .ref r2])), (r0, .inr (6, [.ref a0])), (a0, .inl (cI, 10, .inl f0)), (r1, .inr (6, [.ref a1])), (a1, .inl (cI, 10, .inl (preF f1 (shP tg 0 f0) (i + 1)))), (hm, .inr (4, [.ref rm])), (rm, .inr (6, [.ref am])), (am, .inl (cI, 800, .inl fm))] rfl rfl (by decide) (by decide) (fun _ => rfl) rfl gX0_share_X6_put (by decide +kernel) ⟨Nat.le_of_ble_eq_true rfl, Nat.le_of_ble_eq_true rfl⟩ 0 rfl rfl rfl rfl rfl hl.1 (Nat.le_of_ble_eq_true rfl) ⟨Nat.le_of_ble_eq_true rfl, Nat.le_of_ble_eq_true rfl⟩ dX0_share_89 (fun u H locs hw89 hH => ?_)
              obtain ⟨u41, rfl⟩ : ∃ z, z = u := ⟨_, rfl⟩
              obtain rfl : u41 = rPut 10 (preF f2 (shC tg 0 f0) i) (nI i) 0 := hw89
              have hH := (hH : fx_H zA zs.heap H locs D [(h, .inr (0, [.ref r0, .ref r1, .ref r2])), (r0, .inr (6, [.ref a0])), (a0, .inl (cI, 10, .inl f0)), (r1, .inr (6, [.ref a1])), (a1, .inl (cI, 10, .inl (preF f1 (shP tg 0 f0) (i + 1)))), (r2, .inr (6, [.ref a2])), (a2, .inl (cI, 10, .inl (rPut 10 (preF f2 (shC tg 0 f0) i) (nI i) 0))), (hm, .inr (4, [.ref rm])), (rm, .inr (6, [.ref am])), (am, .inl (cI, 800, .inl fm))])
              rw [show (rPut 10 (preF f2 (shC tg 0 f0) i) (nI i) 0 : Nat → Int32) = preF f2 (shC tg 0 f0) (i + 1) from by first | exact preF_put (by omega) (by omega) (if_pos c77).symm | exact preF_put (by omega) (by omega) (if_neg c77).symm] at hH
              refine lv_iload zx zy dX0_share_92 (lv_at hl 7 rfl) ?_
              refine lv_aload_n zx zy dX0_share_94 rfl (lv_at hl 1 rfl) ?_
              refine fx_get (C := RX0) (T := TX0) (N := 3) hC (fun _ h => List.mem_cons_of_mem _ (List.mem_append_left _ (List.mem_append_left _ (List.mem_append_right _ h)))) hH 0 rfl rfl 1 (by decide) (by decide +kernel) rfl dX0_share_95 ?_
              refine lv_iload zx zy dX0_share_98 (lv_at hl 8 rfl) ?_
              refine fx_cVi (n := 1) (As := [.int (nI i)]) (b := r1) (rest := [.int gv]) (fun (u : Unit) => [(h, .inr (0, [.ref r0, .ref r1, .ref r2])), (r0, .inr (6, [.ref a0])), (a0, .inl (cI, 10, .inl f0)), (r1, .inr (6, [.ref a1])), (a1, .inl (cI, 10, .inl (preF f1 (shP tg 0 f0) (i + 1)))), (r2, .inr (6, [.ref a2])), (a2, .inl (cI, 10, .inl (preF f2 (shC tg 0 f0) (i + 1)))), (hm, .inr (4, [.ref rm])), (rm, .inr (6, [.ref am])), (am, .inl (cI, 800, .inl fm))]) hC hA hH (k_X6_at l D cI cZ r1 a1 10 (preF f1 (shP tg 0 f0) (i + 1)) (nI i) (by first | assumption | omega)) [3, 4] [0, 1, 2, 5, 6, 7, 8, 9] [0, 1, 2, 8, 9, 3, 4, 5, 6, 7] [(h, .inr (0, [.ref r0, .ref r1, .ref r2])), (r0, .inr (6, [.ref a0])), (a0, .inl (cI, 10, .inl f0)), (r2, .inr (6, [.ref a2])), (a2, .inl (cI, 10, .inl (preF f2 (shC tg 0 f0) (i + 1)))), (hm, .inr (4, [.ref rm])), (rm, .inr (6, [.ref am])), (am, .inl (cI, 800, .inl fm))] rfl rfl (by decide) (by decide) (fun _ => rfl) rfl gX0_share_X6_at (by decide +kernel) ⟨Nat.le_of_ble_eq_true rfl, Nat.le_of_ble_eq_true rfl⟩ 0 rfl rfl rfl rfl rfl hl.1 (Nat.le_of_ble_eq_true rfl) ⟨Nat.le_of_ble_eq_true rfl, Nat.le_of_ble_eq_true rfl⟩ dX0_share_100 (fun r42 u H locs hw100 hH => ?_)
              obtain rfl : r42 = rAt 10 (preF f1 (shP tg 0 f0) (i + 1)) (nI i) := hw100
              have hH := (hH : fx_H zA zs.heap H locs D [(h, .inr (0, [.ref r0, .ref r1, .ref r2])), (r0, .inr (6, [.ref a0])), (a0, .inl (cI, 10, .inl f0)), (r1, .inr (6, [.ref a1])), (a1, .inl (cI, 10, .inl (preF f1 (shP tg 0 f0) (i + 1)))), (r2, .inr (6, [.ref a2])), (a2, .inl (cI, 10, .inl (preF f2 (shC tg 0 f0) (i + 1)))), (hm, .inr (4, [.ref rm])), (rm, .inr (6, [.ref am])), (am, .inl (cI, 800, .inl fm))])
              refine lv_topi (fun v43 ev43 => ?_)
              obtain rfl : v43 = shP tg 0 f0 i := ev43.trans (preF_at (by omega) (by omega) (by omega))
              refine lv_iadd zx zy dX0_share_103 ?_
              refine lv_istore (lv' := [(6, .int (gv + (shP tg 0 f0 i))), (8, .int (tg * (f0 i))), (0, .ref h), (1, .int tg), (2, .ref hm), (3, .int (nI wk)), (4, .int (nI y)), (5, .int 0), (7, .int (nI i))]) zx zy dX0_share_104 hl (by decide) rfl (fun ls hl => ?_)
              refine lv_iinc (v := nI (i + 1)) (lv' := [(7, .int (nI (i + 1))), (6, .int (gv + (shP tg 0 f0 i))), (8, .int (tg * (f0 i))), (0, .ref h), (1, .int tg), (2, .ref hm), (3, .int (nI wk)), (4, .int (nI y)), (5, .int 0)]) zx zy dX0_share_106 hl (k := 8) rfl (nI_1 _) (by decide) rfl (fun ls hl => ?_)
              refine lv_goto (tgt := 27) zx zy dX0_share_109 (by decide) ?_
              exact ih27 (i + 1) (gv + (shP tg 0 f0 i)) (by first | assumption | omega) (by subst hgv; rfl) _ _ _ (by omega) hH (lv_sub hl [3, 4, 5, 6, 7, 8, 1, 0] rfl)
            · exact absurd c77 (by decide)
          · exact absurd c54 (by decide)
    exact L27 _ 0 0 (by first | assumption | omega) (rfl) _ _ _ (Nat.lt_succ_self _) (by rw [preF_0, preF_0]; exact hH) (lv_sub hl [3, 4, 5, 6, 7, 2, 1, 0] rfl)
