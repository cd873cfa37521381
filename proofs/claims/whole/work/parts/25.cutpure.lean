def mgI (T1 T2 : Nat → Int32) (n : Int32) : Nat → Int32
  | 0 => 0
  | i + 1 => if csL T1 n i = 0 then mgI T1 T2 n i else T2 i
def slV (CM : Nat → Int32) (x : Nat) : Prop := ∃ e, e ≤ 4 ∧ CM (x / 4) = nI e ∧ x % 4 < e
/-- the class's cuts, cheapest first, and the reference's, place by place -/
def ctR (T0 T1 T2 : Nat → Int32) (ck : Nat) (CM TN CS : Nat → Int32) (s : Nat → Nat) : Prop :=
  (∀ i, i < ck → s i < 40 ∧ slV CM (s i) ∧ T0 i = nI (s i / 4) ∧ T1 i = TN (s i) ∧ T2 i = CS (s i)) ∧ (∀ i, i < ck → ∃ t, 1 ≤ t ∧ t ≤ 99 ∧ T1 i = nI t) ∧ (∀ i, i < ck → ∃ c, c ≤ 999 ∧ T2 i = nI c) ∧ (∀ x, x < 40 → slV CM x → ∃ i, i < ck ∧ s i = x) ∧ (∀ i j, i < j → j < ck → (T2 i).toNatClampNeg < (T2 j).toNatClampNeg ∨ (T2 i = T2 j ∧ s i < s j))
/-- t of the cuts come ahead of the price p and the place x -/
def ctT (T2 : Nat → Int32) (ck : Nat) (s : Nat → Nat) (p x t : Nat) : Prop := t ≤ ck ∧ ∀ i, i < ck → (i < t ↔ ((T2 i).toNatClampNeg < p ∨ ((T2 i).toNatClampNeg = p ∧ s i < x)))
theorem csL_ix {T1 : Nat → Int32} {ck m : Nat} (hm : m < 2 ^ 31) (h : ∀ i, i < ck → ∃ t, 1 ≤ t ∧ t ≤ 99 ∧ T1 i = nI t) : ∀ {i : Nat}, i ≤ ck → ∃ l, l ≤ m ∧ csL T1 (nI m) i = nI l
  | 0, _ => ⟨m, Nat.le_refl _, rfl⟩
  | i + 1, hi => by
    obtain ⟨l, hl, e⟩ := csL_ix hm h (show i ≤ ck by omega)
    obtain ⟨t, h1, h2, e2⟩ := h i (by omega)
    show ∃ l, l ≤ m ∧ csL T1 (nI m) i - (if T1 i < csL T1 (nI m) i then T1 i else csL T1 (nI m) i) = nI l
    rw [e, e2]
    by_cases q : t < l
    · rw [if_pos (nI_lt q (by omega)), pk_sub (by omega)]; exact ⟨l - t, by omega, rfl⟩
    · rw [if_neg (nI_nlt (by omega) (by omega)), pk_sub (Nat.le_refl _)]; exact ⟨l - l, by omega, rfl⟩
theorem cs_stop {T0 T1 T2 : Nat → Int32} {ck : Nat} {n w : Int32} (h : ∀ i, i < ck → ∃ t, 1 ≤ t ∧ t ≤ 99 ∧ T1 i = nI t) {t : Nat} (h0 : csL T1 n t = 0) : ∀ {i : Nat}, t ≤ i → i ≤ ck → csL T1 n i = 0 ∧ csS T1 T2 n i = csS T1 T2 n t ∧ csP T0 T1 n w i = csP T0 T1 n w t ∧ mgI T1 T2 n i = mgI T1 T2 n t
  | 0, a, _ => by have e := Nat.le_zero.mp a; subst e; exact ⟨h0, rfl, rfl, rfl⟩
  | i + 1, a, b => by
    rcases Nat.lt_or_ge t (i + 1) with q | q
    · obtain ⟨r1, r2, r3, r4⟩ := cs_stop (T0 := T0) (T2 := T2) (w := w) h h0 (show t ≤ i by omega) (show i ≤ ck by omega)
      obtain ⟨u, u1, u2, ue⟩ := h i (by omega)
      have e0 : csM T1 n i = 0 := by
        unfold csM
        rw [r1, ue]
        exact if_neg (nI_nlt (b := 0) (Nat.zero_le u) (by omega))
      refine ⟨?_, ?_, ?_, ?_⟩
      · show csL T1 n i - csM T1 n i = 0; rw [r1, e0]; decide
      · show csS T1 T2 n i + csM T1 n i * T2 i = _; rw [e0, r2, Int32.zero_mul, Int32.add_zero]
      · show csP T0 T1 n w i + (if T0 i = w then csM T1 n i else 0) = _; rw [e0, r3, ite_self, Int32.add_zero]
      · show (if csL T1 n i = 0 then mgI T1 T2 n i else T2 i) = _; rw [if_pos r1, r4]
    · rw [← Nat.le_antisymm a q]; exact ⟨h0, rfl, rfl, rfl⟩
theorem ctT_0 {T2 : Nat → Int32} {ck : Nat} {s : Nat → Nat} : ctT T2 ck s 0 0 0 := ⟨Nat.zero_le _, fun i _ => ⟨fun z => absurd z (by omega), fun z => by rcases z with z | z <;> omega⟩⟩
/-- a place that isn't used, or of another price -/
theorem ctT_skip {T0 T1 T2 CM TN CS : Nat → Int32} {ck p x t : Nat} {s : Nat → Nat} (hR : ctR T0 T1 T2 ck CM TN CS s) (h : ctT T2 ck s p x t) (hx : ¬ (slV CM x ∧ (CS x).toNatClampNeg = p)) : ctT T2 ck s p (x + 1) t := by
  refine ⟨h.1, fun i hi => (h.2 i hi).trans ⟨fun z => z.imp id (fun q => ⟨q.1, by omega⟩), fun z => ?_⟩⟩
  rcases z with z | ⟨z1, z2⟩
  · exact Or.inl z
  · refine Or.inr ⟨z1, ?_⟩
    rcases Nat.lt_or_ge (s i) x with q | q
    · exact q
    · have e : s i = x := by omega
      obtain ⟨_, a2, _, _, a5⟩ := hR.1 i hi
      rw [e] at a2 a5
      exact absurd ⟨a2, by rw [← a5]; exact z1⟩ hx
/-- the next cut -/
theorem ctT_hit {T0 T1 T2 CM TN CS : Nat → Int32} {ck p x t : Nat} {s : Nat → Nat} (hR : ctR T0 T1 T2 ck CM TN CS s) (h : ctT T2 ck s p x t) (hx40 : x < 40) (hv : slV CM x) (hp : (CS x).toNatClampNeg = p) : t < ck ∧ s t = x ∧ ctT T2 ck s p (x + 1) (t + 1) := by
  obtain ⟨i, hi, e⟩ := hR.2.2.2.1 x hx40 hv
  have e5 : (T2 i).toNatClampNeg = p := by rw [(hR.1 i hi).2.2.2.2, e]; exact hp
  have h1 : ¬ i < t := fun z => by rcases (h.2 i hi).mp z with q | q <;> omega
  have h2 : ¬ t < i := fun z => by
    have : t < t := (h.2 t (by omega)).mpr (by
      rcases hR.2.2.2.2 t i z hi with q | ⟨q1, q2⟩
      · exact Or.inl (by omega)
      · exact Or.inr ⟨by rw [q1]; exact e5, by omega⟩)
    omega
  have hit : i = t := by omega
  subst hit
  refine ⟨hi, e, hi, fun j hj => ?_⟩
  rcases Nat.lt_or_ge j (i + 1) with q | q
  · refine ⟨fun _ => ?_, fun _ => q⟩
    by_cases q2 : j = i
    · subst q2; exact Or.inr ⟨e5, by omega⟩
    · rcases (h.2 j hj).mp (by omega) with z | z
      · exact Or.inl z
      · exact Or.inr ⟨z.1, by omega⟩
  · refine ⟨fun z => absurd z (by omega), fun z => ?_⟩
    rcases hR.2.2.2.2 i j (by omega) hj with y | ⟨y1, y2⟩
    · rcases z with z | z <;> omega
    · rcases z with z | z
      · rw [← y1] at z; omega
      · omega
theorem ctT_row {T2 : Nat → Int32} {ck p t : Nat} {s : Nat → Nat} (hs : ∀ i, i < ck → s i < 40) (h : ctT T2 ck s p 40 t) : ctT T2 ck s (p + 1) 0 t := by
  refine ⟨h.1, fun i hi => (h.2 i hi).trans ⟨fun z => Or.inl (by rcases z with z | z <;> omega), fun z => ?_⟩⟩
  have := hs i hi
  rcases z with z | z
  · rcases Nat.lt_or_ge (T2 i).toNatClampNeg p with q | q
    · exact Or.inl q
    · exact Or.inr ⟨by omega, this⟩
  · omega
theorem cs_nI {T0 T1 T2 CM TN CS : Nat → Int32} {ck x : Nat} {s : Nat → Nat} (hR : ctR T0 T1 T2 ck CM TN CS s) (hx40 : x < 40) (hv : slV CM x) : ∃ c, c ≤ 999 ∧ CS x = nI c := by
  obtain ⟨i, hi, e⟩ := hR.2.2.2.1 x hx40 hv
  obtain ⟨c, hc, e2⟩ := hR.2.2.1 i hi
  exact ⟨c, hc, by rw [← e, ← (hR.1 i hi).2.2.2.2]; exact e2⟩
theorem ctT_end {T0 T1 T2 CM TN CS : Nat → Int32} {ck t : Nat} {s : Nat → Nat} (hR : ctR T0 T1 T2 ck CM TN CS s) (h : ctT T2 ck s 1000 0 t) : t = ck := by
  refine Nat.le_antisymm h.1 (Nat.le_of_not_lt (fun z => ?_))
  obtain ⟨c, hc, e⟩ := hR.2.2.1 t z
  have := (h.2 t z).mpr (Or.inl (by rw [e, nI_clamp (by omega)]; omega))
  omega
def cfI (T0 T1 : Nat → Int32) (n : Int32) (t : Nat) : Nat → Int32 := fun w => csP T0 T1 n (nI w) t
theorem cfI_s {T0 T1 : Nat → Int32} {n : Int32} {t w : Nat} (hw : w < 10) (h : T0 t = nI w) : ∀ j, j < 10 → upd (cfI T0 T1 n t) w (cfI T0 T1 n t w + csM T1 n t) j = cfI T0 T1 n (t + 1) j := by
  intro j hj
  show (if j = w then _ else _) = csP T0 T1 n (nI j) t + (if T0 t = nI j then csM T1 n t else 0)
  by_cases e : j = w
  · rw [if_pos e, e, if_pos h]; rfl
  · rw [if_neg e, if_neg (fun z => e ((nI_eq (by omega) (by omega)).mp (z.symm.trans h))), Int32.add_zero]; rfl
theorem cfI_same {T0 T1 : Nat → Int32} {n : Int32} {t : Nat} (h : csM T1 n t = 0) : cfI T0 T1 n t = cfI T0 T1 n (t + 1) := by
  funext w
  show _ = csP T0 T1 n (nI w) t + (if T0 t = nI w then csM T1 n t else 0)
  rw [h, ite_self, Int32.add_zero]; rfl
