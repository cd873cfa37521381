theorem capGo_le {f : Nat} (hf : f ≤ 100) : ∀ {d c : Nat}, c ≤ 400 → ∃ c2, c2 ≤ c ∧ capGo (nI f) d (nI c) = nI c2
  | 0, c, _ => ⟨c, Nat.le_refl _, rfl⟩
  | d + 1, c, hc => by
    have hm : c * f ≤ 400 * 100 := Nat.mul_le_mul hc hf
    have hq : c * f / 100 ≤ c := by
      have : c * f ≤ c * 100 := Nat.mul_le_mul_left c hf
      omega
    obtain ⟨c2, h2, e⟩ := capGo_le hf (d := d) (c := c - c * f / 100) (by omega)
    refine ⟨c2, by omega, ?_⟩
    show capGo (nI f) d (nI c - nI c * nI f / 100) = nI c2
    have e1 : nI (c * f) / 100 = nI (c * f / 100) := pk_div (d := 100) (by omega) (by omega) (by omega)
    rw [pk_mul, e1, pk_sub hq]
    exact e
theorem cap_ix {rk y : Nat} {RY L1 L2 L3 L4 L5 RW RS : Nat → Int32} (h : relR rk RY L1 L2 L3 L4 L5 RW RS) : ∃ c, c ≤ 400 ∧ capV RY L1 L2 rk y = nI c := by
  obtain ⟨c, hc, e⟩ := inF_at (f := RY) (g := L1) (y := nI y) (P := fun z => ∃ c, c ≤ 400 ∧ z = nI c) h.1 ⟨0, by omega, rfl⟩ (fun j hj => (h.2 j hj).2.2.1)
  obtain ⟨f, hf, e2⟩ := inF_at (f := RY) (g := L2) (y := nI y) (P := fun z => ∃ c, c ≤ 100 ∧ z = nI c) h.1 ⟨0, by omega, rfl⟩ (fun j hj => (h.2 j hj).2.2.2.1)
  unfold capV
  rw [e, e2]
  obtain ⟨c2, h2, e3⟩ := capGo_le hf (d := y - (rAt 30 RY (inF RY (nI y) rk)).toNatClampNeg) hc
  exact ⟨c2, by omega, e3⟩
theorem share_ix {rk y : Nat} {RY L1 L2 L3 L4 L5 RW RS : Nat → Int32} (h : relR rk RY L1 L2 L3 L4 L5 RW RS) : ∃ f, f ≤ 100 ∧ rAt 30 L3 (inF RY (nI y) rk) = nI f ∧ rAt 30 (pS RS 100000 1000) (inF RY (nI y) rk) = nI f := by
  obtain ⟨f, hf, e⟩ := inF_at (f := RY) (g := L3) (y := nI y) (P := fun z => ∃ c, c ≤ 100 ∧ z = nI c) h.1 ⟨0, by omega, rfl⟩ (fun j hj => (h.2 j hj).2.2.2.2.1)
  exact ⟨f, hf, e, (rAt_inF h.1 (fun j hj => (h.2 j hj).2.1.2.2.1)).symm.trans e⟩
theorem mcB_congr {c d : Nat → Int32} : ∀ {w : Nat}, (∀ j, j < w → c j = d j) → mcB c w = mcB d w
  | 0, _ => rfl
  | w + 1, h => by
    have ih := mcB_congr (c := c) (d := d) (w := w) (fun j hj => h j (by omega))
    have hl : mcB d w < w + 1 := by
      rcases Nat.eq_zero_or_pos w with e | e
      · subst e; exact Nat.lt_succ_of_le (Nat.le_refl 0)
      · have := mcB_lt d w e; omega
    unfold mcB
    rw [ih, h w (by omega), h _ hl]
theorem gvI_congr {wk : Nat} : ∀ {n : Nat} {p p2 c c2 : Nat → Int32}, (∀ j, j < wk → p j = p2 j) → (∀ j, j < wk → c j = c2 j) → ∀ j, j < wk → (gvI wk n p c).1 j = (gvI wk n p2 c2).1 j
  | 0, _, _, _, _, h1, _ => h1
  | n + 1, p, p2, c, c2, h1, h2 => by
    unfold gvI
    rw [mcB_congr h2]
    exact gvI_congr (upd_rel h1 (fun hp => by rw [h1 _ hp])) (upd_rel h2 (fun _ => rfl))
theorem gvI_nat {wk : Nat} (hwk : 0 < wk) : ∀ {n : Nat} {p c : Nat → Int32} {q0 : Nat → Nat}, (∀ j, j < wk → p j = nI (q0 j)) → ∃ q : Nat → Nat, (∀ j, j < wk → (gvI wk n p c).1 j = nI (q j)) ∧ smN q wk = smN q0 wk + n
  | 0, _, _, q0, h => ⟨q0, h, rfl⟩
  | n + 1, p, c, q0, h => by
    have hm := mcB_lt c wk hwk
    obtain ⟨q, h1, h2⟩ := gvI_nat hwk (n := n) (p := upd p (mcB c wk) (p (mcB c wk) + 1)) (c := upd c (mcB c wk) (-1)) (q0 := fun j => if j = mcB c wk then q0 j + 1 else q0 j) (fun j hj => by
      by_cases e : j = mcB c wk
      · rw [e, pk_us, h _ hm]
        show _ = nI (if mcB c wk = mcB c wk then _ else _)
        rw [if_pos rfl]; exact nI_1 _
      · rw [pk_un e, h j hj]
        show _ = nI (if j = mcB c wk then _ else _)
        rw [if_neg e])
    refine ⟨q, h1, ?_⟩
    rw [h2, smN_1 (p := q0) (q := fun j => if j = mcB c wk then q0 j + 1 else q0 j) (w := mcB c wk) (if_pos rfl) (fun j hj => if_neg hj) hm]
    omega
theorem grG_gv {wk tg : Nat} (ht : tg < 2 ^ 31) : ∀ {fu g : Nat} {p c : Nat → Int32}, g ≤ tg → tg - g ≤ fu → (grG wk (nI tg) fu (nI g) p c).1 = nI tg ∧ (grG wk (nI tg) fu (nI g) p c).2 = gvI wk (tg - g) p c
  | 0, g, p, c, h1, h2 => by
    have e : g = tg := by omega
    subst e
    rw [Nat.sub_self]; exact ⟨rfl, rfl⟩
  | fu + 1, g, p, c, h1, h2 => by
    unfold grG
    by_cases q : g = tg
    · subst q
      rw [if_pos (Int32.le_refl _), Nat.sub_self]; exact ⟨rfl, rfl⟩
    · rw [if_neg (fun z => q (Nat.le_antisymm h1 (fx_le_of z (by omega) ht))), gvI_1 (show 0 < tg - g by omega), show nI g + 1 = nI (g + 1) from nI_1 g, show tg - g - 1 = tg - (g + 1) by omega]
      exact grG_gv ht (by omega) (by omega)
theorem sh_sum {tg A : Nat} {v : Nat → Nat} : ∀ {n : Nat}, smN (fun j => tg * v j / A) n * A + smN (fun j => tg * v j % A) n = tg * smN v n
  | 0 => by show 0 * A + 0 = tg * 0; rw [Nat.zero_mul, Nat.mul_zero]
  | n + 1 => by
    have ih := sh_sum (tg := tg) (A := A) (v := v) (n := n)
    have hd := Nat.div_add_mod (tg * v n) A
    show (smN (fun j => tg * v j / A) n + tg * v n / A) * A + (smN (fun j => tg * v j % A) n + tg * v n % A) = tg * (smN v n + v n)
    rw [Nat.add_mul, Nat.mul_add, Nat.mul_comm (tg * v n / A) A]
    omega
theorem fou_nat {RD : Nat → Int32} {y : Nat} (hy : y < 20) (hM : relM RD) : ∃ v : Nat → Nat, (∀ j, j < 10 → v j ≤ 436 ∧ fouV RD j y = nI (v j)) ∧ ∀ w, w ≤ 10 → fouA RD y w = nI (smN v w) := by
  have h1 : ∀ j, j < 10 → (fouV RD j y).toNatClampNeg ≤ 436 ∧ fouV RD j y = nI (fouV RD j y).toNatClampNeg := fun j hj => by
    obtain ⟨s, hs, es⟩ := fouV_le hj hy hM
    rw [es, nI_clamp (by omega)]; exact ⟨hs, rfl⟩
  refine ⟨fun j => (fouV RD j y).toNatClampNeg, h1, fun w => ?_⟩
  induction w with
  | zero => intro _; rfl
  | succ w ih =>
    intro hw
    show fouA RD y w + fouV RD w y = nI (smN (fun j => (fouV RD j y).toNatClampNeg) w + (fouV RD w y).toNatClampNeg)
    rw [ih (by omega), (h1 w (by omega)).2, nI_clamp (by have := (h1 w (by omega)).1; omega), nI_add]
theorem smN_lt2 {p : Nat → Nat} {b : Nat} (hb : 0 < b) : ∀ {n : Nat}, 0 < n → (∀ j, j < n → p j < b) → smN p n < b * n
  | 0, h, _ => absurd h (by omega)
  | n + 1, _, h => by
    have := smN_le (p := p) (b := b) (n := n) (fun j hj => Nat.le_of_lt (h j (by omega)))
    have h2 := h n (by omega)
    show smN p n + p n < b * (n + 1)
    rw [Nat.mul_add, Nat.mul_one]; omega
/-- what an issue gives, for the class and for the reference -/
theorem issue_parts {rk wk now : Nat} {RY L1 L2 L3 L4 L5 RW RS RD : Nat → Int32} (O1 O2 CU : Nat → Int32) (hR : relR rk RY L1 L2 L3 L4 L5 RW RS) (hM : relM RD) (hwk : wk ≤ 10) (hnow : now ≤ 20) :
    ∃ (c : Nat) (p : Nat → Nat) (lq : Nat), c ≤ 400 ∧ capV RY L1 L2 rk now = nI c ∧ capV RY (cW RW) (fW RW) rk now = nI c ∧ (fouA RD (now - 1) wk = 0 ∨ ¬ fouA RD (now - 1) wk ≤ 0) ∧ ((now = 0 ∨ fouA RD (now - 1) wk ≤ 0) → ∀ j, j < wk → p j = 0) ∧
      ((¬ now = 0 ∧ ¬ fouA RD (now - 1) wk ≤ 0) → (shG RD (now - 1) wk (nI c * rAt 30 L3 (inF RY (nI now) rk) / 100) O1 O2).1 = nI (smN p wk) ∧ ∀ j, j < wk → (shG RD (now - 1) wk (nI c * rAt 30 L3 (inF RY (nI now) rk) / 100) O1 O2).2.1 j = nI (p j)) ∧
      (¬ now = 0 → ¬ fouA RD (now - 1) wk = 0 → lfI (nI c * rAt 30 (pS RS 100000 1000) (inF RY (nI now) rk) / 100) (gvP RD (now - 1) wk (nI c * rAt 30 (pS RS 100000 1000) (inF RY (nI now) rk) / 100)) wk = nI lq) ∧ lq < 2 ^ 31 ∧ ((now = 0 ∨ fouA RD (now - 1) wk = 0) → ∀ j, j < wk → p j = 0) ∧
      ((¬ now = 0 ∧ ¬ fouA RD (now - 1) wk = 0) → ∀ z : Nat → Int32, (∀ j, j < 10 → z j = 0) → ∀ j, j < wk → (gvI wk lq (preF z (gvP RD (now - 1) wk (nI c * rAt 30 (pS RS 100000 1000) (inF RY (nI now) rk) / 100)) wk) (preF CU (gvC RD (now - 1) wk (nI c * rAt 30 (pS RS 100000 1000) (inF RY (nI now) rk) / 100)) wk)).1 j = nI (p j)) ∧ smN p wk ≤ c := by
  obtain ⟨c, hc, ec⟩ := cap_ix (y := now) hR
  obtain ⟨sh, hsh, e3, e3b⟩ := share_ix (y := now) hR
  obtain ⟨v, hv, hA⟩ := fou_nat (y := now - 1) (by omega) hM
  have hAw := hA wk hwk
  have hAb : smN v wk ≤ 436 * wk := smN_le (fun j hj => (hv j (by omega)).1)
  have etg : nI c * nI sh / 100 = nI (c * sh / 100) := by
    have hm : c * sh ≤ 400 * 100 := Nat.mul_le_mul hc hsh
    rw [pk_mul]; exact pk_div (d := 100) (by omega) (by omega) (by omega)
  have htc : c * sh / 100 ≤ c := by
    have : c * sh ≤ c * 100 := Nat.mul_le_mul_left c hsh
    omega
  refine ⟨c, ?_⟩
  rw [e3, e3b, etg, hAw]
  generalize c * sh / 100 = tg at htc ⊢
  by_cases q : now = 0 ∨ smN v wk = 0
  · refine ⟨fun _ => 0, 0, hc, ec, (capV_rel hR).symm.trans ec, ?_, fun _ _ _ => rfl, fun z => ?_, fun z1 z2 => ?_, by omega, fun _ _ _ => rfl, fun z => ?_, by rw [smN_zero (fun _ _ => rfl)]; exact Nat.zero_le _⟩
    · by_cases y : smN v wk = 0
      · rw [y]; exact Or.inl rfl
      · exact Or.inr (fun x => y (fx_zero_of x (by omega)))
    · exact absurd q (fun y => y.elim z.1 (fun x => z.2 (by rw [x]; decide)))
    · exact absurd q (fun y => y.elim z1 (fun x => z2 (by rw [x]; rfl)))
    · exact absurd q (fun y => y.elim z.1 (fun x => z.2 (by rw [x]; rfl)))
  · have q1 : ¬ now = 0 := fun z => q (Or.inl z)
    have q2 : 0 < smN v wk := Nat.pos_of_ne_zero (fun z => q (Or.inr z))
    have hw0 : 0 < wk := Nat.pos_of_ne_zero (fun z => by rw [z] at q2; exact absurd q2 (Nat.lt_irrefl 0))
    have hal : ¬ nI (smN v wk) ≤ 0 := fun z => by have := fx_zero_of z (by omega); omega
    have hmv : ∀ j, j < wk → tg * v j ≤ 400 * 436 := fun j hj => Nat.mul_le_mul (by omega) (hv j (by omega)).1
    have eP : ∀ j, j < wk → shP (nI tg) (nI (smN v wk)) (fun j => fouV RD j (now - 1)) j = nI (tg * v j / smN v wk) := fun j hj => by
      have := hmv j hj
      unfold shP
      rw [if_neg hal]
      dsimp only
      rw [(hv j (by omega)).2, pk_mul]
      exact pk_div (by omega) (by omega) (by omega)
    have eC : ∀ j, j < wk → shC (nI tg) (nI (smN v wk)) (fun j => fouV RD j (now - 1)) j = nI (tg * v j % smN v wk) := fun j hj => by
      have := hmv j hj
      unfold shC
      rw [if_neg hal]
      dsimp only
      rw [(hv j (by omega)).2, pk_mul]
      exact pk_rem (by omega) (by omega) (by omega)
    have hsum := sh_sum (tg := tg) (A := smN v wk) (v := v) (n := wk)
    have hcl := smN_lt2 (p := fun j => tg * v j % smN v wk) q2 hw0 (fun j _ => Nat.mod_lt _ q2)
    generalize hg : smN (fun j => tg * v j / smN v wk) wk = g at hsum
    have hgt : g ≤ tg := Nat.le_of_mul_le_mul_right (by omega : g * smN v wk ≤ tg * smN v wk) q2
    have hrest : tg - g < wk := by
      refine Nat.lt_of_mul_lt_mul_left (a := smN v wk) ?_
      rw [Nat.mul_sub, Nat.mul_comm (smN v wk) tg, Nat.mul_comm (smN v wk) g]
      omega
    have eS : ∀ n, n ≤ wk → shS (shP (nI tg) (nI (smN v wk)) (fun j => fouV RD j (now - 1))) n = nI (smN (fun j => tg * v j / smN v wk) n) := fun n => by
      induction n with
      | zero => intro _; rfl
      | succ n ih =>
        intro hn
        show shS _ n + shP _ _ _ n = nI (smN _ n + _)
        rw [ih (by omega), eP n (by omega), nI_add]
    have eL : ∀ n, n ≤ wk → lfI (nI tg) (shP (nI tg) (nI (smN v wk)) (fun j => fouV RD j (now - 1))) n = nI (tg - smN (fun j => tg * v j / smN v wk) n) := fun n => by
      induction n with
      | zero => intro _; rfl
      | succ n ih =>
        intro hn
        have hm := smN_mono (fun j => tg * v j / smN v wk) hn
        have hs : smN (fun j => tg * v j / smN v wk) (n + 1) = smN (fun j => tg * v j / smN v wk) n + tg * v n / smN v wk := rfl
        show lfI _ _ n - shP _ _ _ n = _
        rw [ih (by omega), eP n (by omega), pk_sub (by omega), hs]
        exact congrArg nI (by omega)
    obtain ⟨p, hp1, hp2⟩ := gvI_nat hw0 (n := tg - g) (p := preF O1 (shP (nI tg) (nI (smN v wk)) (fun j => fouV RD j (now - 1))) wk) (c := preF O2 (shC (nI tg) (nI (smN v wk)) (fun j => fouV RD j (now - 1))) wk) (q0 := fun j => tg * v j / smN v wk) (fun j hj => (preF_in hj).trans (eP j hj))
    have hp3 : smN p wk = tg := by rw [hp2, hg]; omega
    have hG := grG_gv (wk := wk) (tg := tg) (by omega) (fu := wk) (g := g) (p := preF O1 (shP (nI tg) (nI (smN v wk)) (fun j => fouV RD j (now - 1))) wk) (c := preF O2 (shC (nI tg) (nI (smN v wk)) (fun j => fouV RD j (now - 1))) wk) hgt (by omega)
    refine ⟨p, tg - g, hc, ec, (capV_rel hR).symm.trans ec, Or.inr hal, fun z => ?_, fun z => ?_, fun z1 z2 => ?_, by omega, fun z => ?_, fun z zz hz j hj => ?_, by omega⟩
    · exact absurd z (fun y => y.elim q1 hal)
    · unfold shG
      rw [hAw, eS wk (Nat.le_refl wk), hg, hG.1, hG.2, hp3]
      exact ⟨rfl, hp1⟩
    · unfold gvP
      rw [hAw, eL wk (Nat.le_refl wk), hg]
    · exact absurd z (fun y => y.elim q1 (fun x => hal (by rw [x]; decide)))
    · unfold gvP gvC
      rw [hAw, ← hp1 j hj]
      exact gvI_congr (fun i hi => (preF_in hi).trans (preF_in hi).symm) (fun i hi => (preF_in hi).trans (preF_in hi).symm) j hj

theorem smN_find {p : Nat → Nat} : ∀ {w o : Nat}, o < smN p w → ∃ v, v < w ∧ smN p v ≤ o ∧ o < smN p (v + 1)
  | 0, o, h => absurd h (Nat.not_lt_zero o)
  | w + 1, o, h => by
    rcases Nat.lt_or_ge o (smN p w) with q | q
    · obtain ⟨v, h1, h2, h3⟩ := smN_find q
      exact ⟨v, by omega, h2, h3⟩
    · exact ⟨w, by omega, q, h⟩
theorem rel_issue {k wk pj now N N2 Ng k2 l2 c q0 q1 q2 q3 q4 q5 pa0 pa1 pa2 pa3 pa4 pa5 : Nat} {p : Nat → Nat} {P0 P1 P2 P3 P4 P5 P6 P7 ST HO YO UI PO WE E2 O0 O1 O2 o0 o1 o2 GV CU g0 g1 g2 g3 g4 g5 g6 m0 m1 m2 m3 m4 gg cc : Nat → Int32} {us ca iy iy2 ii ii2 r1 r2 : Int32} (h : relQ k wk pj P0 P1 P2 P3 P4 P5 ST HO YO UI PO WE us ca E2) (hwk : wk ≤ 10) (hI : relI now iy ii) (hkN : k ≤ N) (hN : N ≤ 4000) (hok : pOk P0 P1 P6 P7 k) (hsm : smN p wk ≤ c)
    (hNg : (now < 20 ∧ iy = 0 ∧ k + c ≤ 4000) → Ng = mrR (mrI N k p wk) (k + c)) (hNg2 : ¬ (now < 20 ∧ iy = 0 ∧ k + c ≤ 4000) → Ng = N)
    (h1 : ((now < 20 ∧ iy = 0 ∧ k + c ≤ 4000) ∧ r1 = nI c ∧ iy2 = 1 ∧ N2 = Ng ∧ k2 = k + c ∧ (∀ j, j < k → g0 j = P0 j ∧ g1 j = P1 j ∧ g2 j = P2 j ∧ g3 j = P3 j ∧ g4 j = P4 j ∧ g5 j = P5 j) ∧ (∀ v, v < wk → ∀ o, smN p v ≤ o → o < smN p (v + 1) → g1 (k + o) = nI v) ∧ (∀ o, smN p wk ≤ o → o < c → g1 (k + o) = -1) ∧ (∀ j, k ≤ j → j < k + c → g0 j = 0 ∧ g2 j = nI now ∧ g3 j = -1 ∧ g4 j = -1 ∧ g5 j = 0) ∧ pOk g0 g1 g6 P7 (k + c)) ∨ (¬ (now < 20 ∧ iy = 0 ∧ k + c ≤ 4000) ∧ r1 = -1 ∧ iy2 = iy ∧ o0 = O0 ∧ o1 = O1 ∧ o2 = O2 ∧ N2 = N ∧ k2 = k ∧ (q0 = pa0 ∧ q1 = pa1 ∧ q2 = pa2 ∧ q3 = pa3 ∧ q4 = pa4 ∧ q5 = pa5) ∧ g0 = P0 ∧ g1 = P1 ∧ g2 = P2 ∧ g3 = P3 ∧ g4 = P4 ∧ g5 = P5 ∧ g6 = P6))
    (h2 : ((now < 20 ∧ ¬ ii = nI now ∧ k + c ≤ 4000) ∧ r2 = nI c ∧ ii2 = nI now ∧ l2 = k + c ∧ (∀ j, j < k → m0 j = ST j ∧ m1 j = HO j ∧ m2 j = YO j ∧ m3 j = UI j ∧ m4 j = PO j) ∧ (∀ v, v < wk → ∀ o, smN p v ≤ o → o < smN p (v + 1) → m1 (k + o) = nI v) ∧ (∀ o, smN p wk ≤ o → o < c → m1 (k + o) = -1) ∧ (∀ j, k ≤ j → j < k + c → m0 j = 0 ∧ m2 j = nI now ∧ m3 j = -1 ∧ m4 j = -1)) ∨ (¬ (now < 20 ∧ ¬ ii = nI now ∧ k + c ≤ 4000) ∧ r2 = -1 ∧ ii2 = ii ∧ l2 = k ∧ gg = GV ∧ cc = CU ∧ m0 = ST ∧ m1 = HO ∧ m2 = YO ∧ m3 = UI ∧ m4 = PO)) :
    r1 = r2 ∧ l2 = k2 ∧ N2 = Ng ∧ k2 ≤ N2 ∧ N2 ≤ 4000 ∧ phi N ≤ phi N2 ∧ relI now iy2 ii2 ∧ pOk g0 g1 g6 P7 k2 ∧ relQ k2 wk pj g0 g1 g2 g3 g4 g5 m0 m1 m2 m3 m4 WE us ca E2 := by
  have hio : (now < 20 ∧ iy = 0 ∧ k + c ≤ 4000) ↔ (now < 20 ∧ ¬ ii = nI now ∧ k + c ≤ 4000) := by rw [hI.2.1]
  rcases h1 with ⟨a, e1, e2, e3, e4, e5, e6, e7, e8, e9⟩ | ⟨a, e1, e2, y0, y1, y2, e3, e4, y3, c0, c1, c2, c3, c4, c5, c6⟩ <;> rcases h2 with ⟨b, f1, f2, f4, f5, f6, f7, f8⟩ | ⟨b, f1, f2, f4, x0, x1, d0, d1, d2, d3, d4⟩
  · have ng := hNg a
    obtain ⟨u1, u2, u3⟩ := mrI_ok (p := p) hkN hN (w := wk) (by omega)
    obtain ⟨z1, z2, z3, z4⟩ := mrR_le (N := mrI N k p wk) (m := k + c) u2 a.2.2
    have hho : ∀ j, k ≤ j → j < k + c → g1 j = m1 j ∧ (m1 j = -1 ∨ ∃ w, w < wk ∧ m1 j = nI w) := fun j hj1 hj2 => by
      obtain ⟨o, rfl⟩ : ∃ o, j = k + o := ⟨j - k, by omega⟩
      rcases Nat.lt_or_ge o (smN p wk) with q | q
      · obtain ⟨v, v1, v2, v3⟩ := smN_find q
        rw [e6 v v1 o v2 v3, f6 v v1 o v2 v3]; exact ⟨rfl, Or.inr ⟨v, v1, rfl⟩⟩
      · rw [e7 o q (by omega), f7 o q (by omega)]; exact ⟨rfl, Or.inl rfl⟩
    refine ⟨by rw [e1, f1], by rw [e4, f4], e3, by rw [e3, ng, e4]; exact z2, by rw [e3, ng]; exact z3, by rw [e3, ng]; exact Nat.le_trans u3 z4, ?_, by rw [e4]; exact e9, ?_⟩
    · rw [e2, f2]
      exact ⟨Or.inr rfl, ⟨fun z => absurd z (by decide), fun z => absurd rfl z⟩, Or.inr ⟨now, Nat.le_refl _, rfl⟩⟩
    · rw [e4]
      refine relQ_come h a.2.2 (Nat.le_refl _) e5 f5 (fun j a b => ?_) (fun j a b => ?_)
      · obtain ⟨s0, s2, s3, s4, s5⟩ := e8 j a b
        obtain ⟨t0, t2, t3, t4⟩ := f8 j a b
        exact ⟨⟨s0, t0⟩, (hho j a b).1, s2.trans t2.symm, s3.trans t3.symm, s4.trans t4.symm, s5⟩
      · exact ⟨(hho j a b).2, Or.inl (f8 j a b).2.2.2⟩
  · exact absurd (hio.mp a) b
  · exact absurd (hio.mpr b) a
  · have := hNg2 a
    refine ⟨by rw [e1, f1], by rw [e4, f4], by omega, by omega, by omega, by rw [e3]; exact Nat.le_refl _, by rw [e2, f2]; exact hI, by rw [c0, c1, c6, e4]; exact hok, ?_⟩
    rw [e4, c0, c1, c2, c3, c4, c5, d0, d1, d2, d3, d4]; exact h
