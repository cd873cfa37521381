def tnN (T1 : Nat → Int32) : Nat → Nat := fun j => (T1 j).toNatClampNeg
theorem shS_tn {T1 : Nat → Int32} {ck : Nat} (h : ∀ i, i < ck → ∃ t, 1 ≤ t ∧ t ≤ 99 ∧ T1 i = nI t) : ∀ {i : Nat}, i ≤ ck → shS T1 i = nI (smN (tnN T1) i)
  | 0, _ => rfl
  | i + 1, hi => by
    obtain ⟨t, t1, t2, e⟩ := h i (by omega)
    show shS T1 i + T1 i = nI (smN (tnN T1) i + tnN T1 i)
    rw [shS_tn h (by omega), show tnN T1 i = t by unfold tnN; rw [e, nI_clamp (by omega)], e, nI_add]
theorem csL_tn {T1 : Nat → Int32} {ck m : Nat} (hm : m < 2 ^ 31) (h : ∀ i, i < ck → ∃ t, 1 ≤ t ∧ t ≤ 99 ∧ T1 i = nI t) : ∀ {i : Nat}, i ≤ ck → csL T1 (nI m) i = nI (m - smN (tnN T1) i)
  | 0, _ => rfl
  | i + 1, hi => by
    obtain ⟨t, t1, t2, e⟩ := h i (by omega)
    show csL T1 (nI m) i - (if T1 i < csL T1 (nI m) i then T1 i else csL T1 (nI m) i) = nI (m - (smN (tnN T1) i + tnN T1 i))
    rw [csL_tn hm h (by omega), show tnN T1 i = t by unfold tnN; rw [e, nI_clamp (by omega)], e]
    by_cases q : t < m - smN (tnN T1) i
    · rw [if_pos (nI_lt q (by omega)), pk_sub (by omega)]; exact congrArg nI (by omega)
    · rw [if_neg (nI_nlt (by omega) (by omega)), pk_sub (Nat.le_refl _)]; exact congrArg nI (by omega)
theorem cs_iff {ck : Nat} {T0 T1 T2 CM TN CS : Nat → Int32} {tal n : Int32} (h : relC ck T0 T1 T2 CM TN CS tal) (hn : ¬ n < 0) : ¬ tal < n ↔ csL T1 n ck = 0 := by
  obtain ⟨m, hm, rfl⟩ := nI_of hn
  have hck := (relC_ck h).1
  obtain ⟨-, -, ⟨s, hR⟩, h4⟩ := h
  have hs : smN (tnN T1) ck ≤ 99 * ck := smN_le (fun j hj => by
    obtain ⟨t, t1, t2, e⟩ := hR.2.1 j hj
    unfold tnN; rw [e, nI_clamp (by omega)]; exact t2)
  rw [h4, shS_tn hR.2.1 (Nat.le_refl ck), csL_tn hm hR.2.1 (Nat.le_refl ck), nI_ltI (by omega) hm]
  rw [show (0 : Int32) = nI 0 from rfl, nI_eq (by omega) (by omega)]
  omega
theorem sub_le0 {x t : Nat} (h : x ≤ t) (ht : t < 2 ^ 31) : nI x - nI t ≤ 0 := by
  rw [Int32.le_iff_toInt_le, Int32.toInt_sub, nI_toInt (by omega), nI_toInt ht]
  rw [Int.bmod_eq_of_le (by omega) (by omega)]
  show _ ≤ (0 : Int)
  omega
theorem deG_mg {T0 T1 T2 : Nat → Int32} {ck m : Nat} (hm : m < 2 ^ 31) (h : ∀ i, i < ck → ∃ t, 1 ≤ t ∧ t ≤ 99 ∧ T1 i = nI t) : ∀ {fu i : Nat} {l : Int32}, i + fu = ck → (l = csL T1 (nI m) i ∨ (l ≤ 0 ∧ csL T1 (nI m) i = 0)) → deG T1 T2 fu i l (mgI T1 T2 (nI m) i) = mgI T1 T2 (nI m) ck
  | 0, i, l, hi, _ => by
    have : i = ck := by omega
    subst this
    rfl
  | fu + 1, i, l, hi, hl => by
    unfold deG
    have e0 := csL_tn (T1 := T1) hm h (show i ≤ ck by omega)
    by_cases q : l ≤ 0
    · rw [if_pos q]
      have hz : csL T1 (nI m) i = 0 := by
        rcases hl with z | z
        · rw [z, e0] at q
          rw [e0, fx_zero_of q (by omega)]; rfl
        · exact z.2
      exact (cs_stop (T0 := T0) (T2 := T2) (w := 0) h hz (show i ≤ ck by omega) (Nat.le_refl ck)).2.2.2.symm
    · rw [if_neg q]
      have hz : l = csL T1 (nI m) i := hl.resolve_right (fun z => q z.1)
      have hnz : ¬ csL T1 (nI m) i = 0 := fun z => q (by rw [hz, z]; decide)
      have em : mgI T1 T2 (nI m) (i + 1) = T2 i := if_neg hnz
      rw [← em]
      refine deG_mg (T0 := T0) hm h (by omega) ?_
      obtain ⟨t, t1, t2, e⟩ := h i (by omega)
      have e1 := csL_tn (T1 := T1) hm h (show i + 1 ≤ ck by omega)
      have e2 : smN (tnN T1) (i + 1) = smN (tnN T1) i + t := by
        show smN (tnN T1) i + tnN T1 i = _
        rw [show tnN T1 i = t by unfold tnN; rw [e, nI_clamp (by omega)]]
      rw [hz, e1, e2, e0, e]
      by_cases q2 : t ≤ m - smN (tnN T1) i
      · refine Or.inl ?_
        rw [pk_sub q2]; exact congrArg nI (by omega)
      · refine Or.inr ⟨sub_le0 (by omega) (by omega), ?_⟩
        rw [show m - (smN (tnN T1) i + t) = 0 by omega]; rfl
theorem rel_least {ck : Nat} {T0 T1 T2 CM TN CS : Nat → Int32} {tal n v1 v2 r1 r2 : Int32} (h : relC ck T0 T1 T2 CM TN CS tal) (hv : ¬ n < 0 → v1 = v2) (h1 : ((¬ n < 0 ∧ ¬ tal < n) ∧ r1 = v1) ∨ ((n < 0 ∨ tal < n) ∧ r1 = -1)) (h2 : ((¬ n < 0 ∧ csL T1 n ck = 0) ∧ r2 = v2) ∨ (¬ (¬ n < 0 ∧ csL T1 n ck = 0) ∧ r2 = -1)) : r1 = r2 := by
  rcases h1 with ⟨a, e⟩ | ⟨a, e⟩ <;> rcases h2 with ⟨b, f⟩ | ⟨b, f⟩
  · rw [e, f, hv a.1]
  · exact absurd ⟨a.1, (cs_iff h a.1).mp a.2⟩ b
  · exact absurd a (fun z => z.elim b.1 ((cs_iff h b.1).mpr b.2))
  · rw [e, f]
theorem rel_margin {ck : Nat} {T0 T1 T2 CM TN CS : Nat → Int32} {tal n : Int32} (h : relC ck T0 T1 T2 CM TN CS tal) (hn : ¬ n < 0) : deG T1 T2 ck 0 n 0 = mgI T1 T2 n ck := by
  obtain ⟨m, hm, rfl⟩ := nI_of hn
  obtain ⟨-, -, ⟨s, hR⟩, -⟩ := h
  exact deG_mg (T0 := T0) (T2 := T2) hm hR.2.1 (fu := ck) (i := 0) (l := nI m) (by omega) (Or.inl rfl)
theorem rel_cuts {ck wk : Nat} {T0 T1 T2 CM TN CS : Nat → Int32} {tal n x r1 r2 : Int32} (h : relC ck T0 T1 T2 CM TN CS tal) (hwk : wk ≤ 10) (h1 : (∃ w, (w < wk ∧ x = nI w ∧ ¬ n < 0 ∧ ¬ tal < n) ∧ r1 = csP T0 T1 n (nI w) ck) ∨ ((∀ w, ¬ (w < wk ∧ x = nI w ∧ ¬ n < 0 ∧ ¬ tal < n)) ∧ r1 = -1)) (h2 : (∃ w, (w < wk ∧ x = nI w ∧ ¬ n < 0 ∧ csL T1 n ck = 0) ∧ r2 = csP T0 T1 n (nI w) ck) ∨ ((∀ w, ¬ (w < wk ∧ x = nI w ∧ ¬ n < 0 ∧ csL T1 n ck = 0)) ∧ r2 = -1)) : r1 = r2 := by
  rcases h1 with ⟨w, a, e⟩ | ⟨a, e⟩ <;> rcases h2 with ⟨w2, b, f⟩ | ⟨b, f⟩
  · have ew : w = w2 := (nI_eq (by omega) (by omega)).mp (a.2.1.symm.trans b.2.1)
    rw [e, f, ew]
  · exact absurd ⟨a.1, a.2.1, a.2.2.1, (cs_iff h a.2.2.1).mp a.2.2.2⟩ (b w)
  · exact absurd ⟨b.1, b.2.1, b.2.2.1, (cs_iff h b.2.2.1).mpr b.2.2.2⟩ (a w2)
  · rw [e, f]
