theorem ofP_hi {f0 f2 : Nat → Int32} {w c : Int32} : ∀ {k i : Nat}, ofP f0 f2 w c k ≤ i → i < k → cbB f0 f2 i w c
  | 0, i, _, h => absurd h (by omega)
  | k + 1, i, h1, h2 => by
    unfold ofP at h1
    split at h1
    · rename_i q
      by_cases e : i = k
      · rw [e]; exact q
      · exact ofP_hi h1 (by omega)
    · omega
theorem ofP_lo {f0 f2 : Nat → Int32} {w c : Int32} : ∀ {k : Nat}, 0 < ofP f0 f2 w c k → ¬ cbB f0 f2 (ofP f0 f2 w c k - 1) w c
  | 0, h => absurd h (Nat.lt_irrefl 0)
  | k + 1, h => by
    unfold ofP at h ⊢
    split
    · rename_i q
      rw [if_pos q] at h
      exact ofP_lo h
    · rename_i q; exact q
theorem smN_congr {p q : Nat → Nat} : ∀ {n : Nat}, (∀ j, j < n → p j = q j) → smN p n = smN q n
  | 0, _ => rfl
  | n + 1, h => by show smN p n + p n = smN q n + q n; rw [smN_congr (fun j hj => h j (by omega)), h n (by omega)]
theorem smN_1 {p q : Nat → Nat} {w : Nat} (hw : q w = p w + 1) (ho : ∀ j, j ≠ w → q j = p j) : ∀ {n : Nat}, w < n → smN q n = smN p n + 1
  | 0, h => absurd h (by omega)
  | n + 1, h => by
    show smN q n + q n = smN p n + p n + 1
    by_cases e : w = n
    · subst e
      rw [smN_congr (p := q) (q := p) (fun j hj => ho j (by omega)), hw]; omega
    · rw [ho n (fun z => e z.symm), smN_1 hw ho (by omega)]; omega
theorem smN_le {p : Nat → Nat} {b : Nat} : ∀ {n : Nat}, (∀ j, j < n → p j ≤ b) → smN p n ≤ b * n
  | 0, _ => Nat.zero_le _
  | n + 1, h => by
    have := smN_le (p := p) (b := b) (n := n) (fun j hj => h j (by omega))
    have h2 := h n (by omega)
    show smN p n + p n ≤ b * (n + 1)
    rw [Nat.mul_add, Nat.mul_one]; omega
theorem smN_lt {p : Nat → Nat} {b w : Nat} : ∀ {n : Nat}, (∀ j, j < n → p j ≤ b) → w < n → p w < b → smN p n < b * n
  | 0, _, h, _ => absurd h (by omega)
  | n + 1, h, hw, hl => by
    show smN p n + p n < b * (n + 1)
    rw [Nat.mul_add, Nat.mul_one]
    by_cases e : w = n
    · subst e
      have := smN_le (p := p) (b := b) (n := w) (fun j hj => h j (by omega))
      omega
    · have := smN_lt (p := p) (b := b) (n := n) (fun j hj => h j (by omega)) (by omega) hl
      have := h n (by omega)
      omega
theorem relC_ck {ck : Nat} {T0 T1 T2 CM TN CS : Nat → Int32} {tal : Int32} (h : relC ck T0 T1 T2 CM TN CS tal) : ck ≤ 40 ∧ ∀ w, w < 10 → CM w < 4 → ck < 40 := by
  obtain ⟨h1, h2, -, -⟩ := h
  have hb : ∀ j, j < 10 → (CM j).toNatClampNeg ≤ 4 := fun j hj => by obtain ⟨e, he, ee⟩ := h2 j hj; rw [ee, nI_clamp (by omega)]; exact he
  refine ⟨by rw [h1]; exact smN_le (b := 4) (n := 10) hb, fun w hw hl => ?_⟩
  rw [h1]
  refine smN_lt (b := 4) (n := 10) hb hw ?_
  obtain ⟨e, he, ee⟩ := h2 w hw
  rw [ee] at hl ⊢
  rw [nI_clamp (by omega)]
  exact (nI_ltI (b := 4) (by omega) (by omega)).mp hl
theorem ctR_cut {T0 T1 T2 CM TN CS : Nat → Int32} {ck w e : Nat} {s : Nat → Nat} {a2 a3 : Int32} (hR : ctR T0 T1 T2 ck CM TN CS s) (hw : w < 10) (he : e < 4) (hCM : CM w = nI e) (hc2 : ¬ a2 < 1 ∧ ¬ 99 < a2) (hc3 : ¬ a3 < 0 ∧ ¬ 999 < a3) :
    ctR (rSq T0 (ofP T0 T2 (nI w) a3 ck) ck (nI w)) (rSq T1 (ofP T0 T2 (nI w) a3 ck) ck a2) (rSq T2 (ofP T0 T2 (nI w) a3 ck) ck a3) (ck + 1) (upd CM w (CM w + 1)) (upd TN (4 * w + e) a2) (upd CS (4 * w + e) a3) (insF s (ofP T0 T2 (nI w) a3 ck) (4 * w + e)) := by
  have hp := ofP_le T0 T2 (nI w) a3 ck
  have hhi : ∀ i, ofP T0 T2 (nI w) a3 ck ≤ i → i < ck → cbB T0 T2 i (nI w) a3 := fun i a b => ofP_hi a b
  have hlo : 0 < ofP T0 T2 (nI w) a3 ck → ¬ cbB T0 T2 (ofP T0 T2 (nI w) a3 ck - 1) (nI w) a3 := fun h => ofP_lo h
  generalize ofP T0 T2 (nI w) a3 ck = p at hp hhi hlo ⊢
  obtain ⟨n2, hn2, hn22, en2⟩ := w_1in (c := 99) (by omega) hc2.1 hc2.2
  obtain ⟨n3, hn3, en3⟩ := w_in (N := 999) (by omega) hc3.1 hc3.2
  obtain ⟨r1, r2, r3, r4, r5⟩ := id hR
  have hdv : (4 * w + e) / 4 = w := by omega
  have hmd : (4 * w + e) % 4 = e := by omega
  have hnot : ¬ slV CM (4 * w + e) := fun ⟨e2, _, y, z⟩ => by
    rw [hdv] at y
    rw [hmd] at z
    have := (nI_eq (by omega) (by omega)).mp (hCM.symm.trans y)
    omega
  have hne : ∀ i, i < ck → s i ≠ 4 * w + e := fun i hi z => hnot (by rw [← z]; exact (r1 i hi).2.1)
  have hsl : ∀ x, slV CM x → slV (upd CM w (CM w + 1)) x := fun x ⟨e2, y1, y2, y3⟩ => by
    by_cases q : x / 4 = w
    · rw [q] at y2
      have h2 := (nI_eq (by omega) (by omega)).mp (hCM.symm.trans y2)
      exact ⟨e + 1, by omega, by rw [q, pk_us, hCM]; exact nI_1 e, by omega⟩
    · exact ⟨e2, y1, by rw [pk_un q]; exact y2, y3⟩
  have hsl2 : ∀ x, slV (upd CM w (CM w + 1)) x → x = 4 * w + e ∨ slV CM x := fun x ⟨e2, y1, y2, y3⟩ => by
    by_cases q : x / 4 = w
    · rw [q, pk_us, hCM] at y2
      have h2 := (nI_eq (by omega) (by omega)).mp ((nI_1 e).symm.trans y2)
      by_cases q2 : x % 4 = e
      · exact Or.inl (by omega)
      · exact Or.inr ⟨e, by omega, by rw [q]; exact hCM, by omega⟩
    · rw [pk_un q] at y2; exact Or.inr ⟨e2, y1, y2, y3⟩
  have hself : slV (upd CM w (CM w + 1)) (4 * w + e) := ⟨e + 1, by omega, by rw [hdv, pk_us, hCM]; exact nI_1 e, by omega⟩
  have q0 : ∀ (f : Nat → Int32) (v : Int32) (i : Nat), i < ck + 1 → rSq f p ck v i = insF f p v i := fun f v i hi => rSq_ins (by omega)
  have c2 : ∀ i, i < ck → (a3 < T2 i ↔ a3.toNatClampNeg < (T2 i).toNatClampNeg) ∧ (T2 i = a3 ↔ (T2 i).toNatClampNeg = a3.toNatClampNeg) := fun i hi => by
    obtain ⟨c, hc, ec⟩ := r3 i hi
    exact ⟨(clamp_lt en3 ec (by omega) (by omega)).1, (clamp_lt ec en3 (by omega) (by omega)).2.2⟩
  have c0 : ∀ i, i < ck → (T0 i ≤ nI w ↔ s i / 4 ≤ w) := fun i hi => by
    rw [(r1 i hi).2.2.1]
    have := (r1 i hi).1
    exact nI_leI (by omega) (by omega)
  refine ⟨fun i hi => ?_, fun i hi => ?_, fun i hi => ?_, fun x hx hv => ?_, fun i j hij hj => ?_⟩
  · rw [q0 T0 _ i hi, q0 T1 _ i hi, q0 T2 _ i hi]
    refine ins_cases (P := fun i => insF s p (4 * w + e) i < 40 ∧ slV (upd CM w (CM w + 1)) (insF s p (4 * w + e) i) ∧ insF T0 p (nI w) i = nI (insF s p (4 * w + e) i / 4) ∧ insF T1 p a2 i = upd TN (4 * w + e) a2 (insF s p (4 * w + e) i) ∧ insF T2 p a3 i = upd CS (4 * w + e) a3 (insF s p (4 * w + e) i)) hi hp (fun z y => ?_) (fun z => ?_) (fun j z y ej => ?_)
    · obtain ⟨u0, u1, u2, u3, u4⟩ := r1 i y
      rw [ins_lo z, ins_lo z, ins_lo z, ins_lo z, pk_un (hne i y), pk_un (hne i y)]; exact ⟨u0, hsl _ u1, u2, u3, u4⟩
    · rw [z, ins_at, ins_at, ins_at, ins_at, pk_us, pk_us, hdv]; exact ⟨by omega, hself, rfl, rfl, rfl⟩
    · obtain ⟨u0, u1, u2, u3, u4⟩ := r1 j y
      rw [ej, ins_hi (by omega), ins_hi (by omega), ins_hi (by omega), ins_hi (by omega), Nat.add_sub_cancel, pk_un (hne j y), pk_un (hne j y)]; exact ⟨u0, hsl _ u1, u2, u3, u4⟩
  · rw [q0 _ _ i hi]
    refine ins_cases (P := fun i => ∃ t, 1 ≤ t ∧ t ≤ 99 ∧ insF T1 p a2 i = nI t) hi hp (fun z y => ?_) (fun z => ?_) (fun j z y ej => ?_)
    · rw [ins_lo z]; exact r2 i y
    · rw [z, ins_at]; exact ⟨n2, hn2, hn22, en2⟩
    · rw [ej, ins_hi (by omega), Nat.add_sub_cancel]; exact r2 j y
  · rw [q0 _ _ i hi]
    refine ins_cases (P := fun i => ∃ c, c ≤ 999 ∧ insF T2 p a3 i = nI c) hi hp (fun z y => ?_) (fun z => ?_) (fun j z y ej => ?_)
    · rw [ins_lo z]; exact r3 i y
    · rw [z, ins_at]; exact ⟨n3, by omega, en3⟩
    · rw [ej, ins_hi (by omega), Nat.add_sub_cancel]; exact r3 j y
  · rcases hsl2 x hv with z | z
    · exact ⟨p, by omega, by rw [ins_at, z]⟩
    · obtain ⟨i, hi, ei⟩ := r4 x hx z
      rcases Nat.lt_or_ge i p with y | y
      · exact ⟨i, by omega, by rw [ins_lo y]; exact ei⟩
      · exact ⟨i + 1, by omega, by rw [ins_hi (by omega), Nat.add_sub_cancel]; exact ei⟩
  · rw [q0 _ _ i (by omega), q0 _ _ j hj]
    have lo1 : 0 < p → (T2 (p - 1)).toNatClampNeg < a3.toNatClampNeg ∨ (T2 (p - 1) = a3 ∧ s (p - 1) < 4 * w + e) := fun hp0 => by
      have hl := hlo hp0
      have hb : p - 1 < ck := by omega
      by_cases q : T2 (p - 1) = a3
      · refine Or.inr ⟨q, ?_⟩
        have q2 : s (p - 1) / 4 ≤ w := (c0 _ hb).mp (Classical.byContradiction (fun z => hl (Or.inr ⟨q, z⟩)))
        rcases Nat.lt_or_ge (s (p - 1) / 4) w with y | y
        · omega
        · obtain ⟨e2, y1, y2, y3⟩ := (r1 _ hb).2.1
          rw [Nat.le_antisymm q2 y] at y2
          have := (nI_eq (by omega) (by omega)).mp (hCM.symm.trans y2)
          omega
      · refine Or.inl ?_
        have q3 : ¬ a3.toNatClampNeg < (T2 (p - 1)).toNatClampNeg := fun z => hl (Or.inl ((c2 _ hb).1.mpr z))
        have q4 : ¬ (T2 (p - 1)).toNatClampNeg = a3.toNatClampNeg := fun z => q ((c2 _ hb).2.mpr z)
        omega
    have lo : ∀ i, i < p → (T2 i).toNatClampNeg < a3.toNatClampNeg ∨ (T2 i = a3 ∧ s i < 4 * w + e) := fun i hi => by
      by_cases q : i = p - 1
      · rw [q]; exact lo1 (by omega)
      · rcases r5 i (p - 1) (by omega) (by omega) with y | ⟨y, y2⟩
        · rcases lo1 (by omega) with x | ⟨x, _⟩
          · exact Or.inl (by omega)
          · exact Or.inl (by rw [← x]; exact y)
        · rcases lo1 (by omega) with x | ⟨x, x2⟩
          · exact Or.inl (by rw [y]; exact x)
          · exact Or.inr ⟨y.trans x, by omega⟩
    have hiB : ∀ i, p ≤ i → i < ck → a3.toNatClampNeg < (T2 i).toNatClampNeg ∨ (a3 = T2 i ∧ 4 * w + e < s i) := fun i a b => by
      rcases hhi i a b with y | ⟨y, y2⟩
      · exact Or.inl ((c2 i b).1.mp y)
      · refine Or.inr ⟨y.symm, ?_⟩
        rw [c0 i b] at y2
        omega
    rcases Nat.lt_trichotomy i p with z | z | z
    · rcases Nat.lt_trichotomy j p with y | y | y
      · rw [ins_lo z, ins_lo z, ins_lo y, ins_lo y]; exact r5 i j hij (by omega)
      · rw [y, ins_lo z, ins_lo z, ins_at, ins_at]; exact lo i z
      · rw [ins_lo z, ins_lo z, ins_hi y, ins_hi y]; exact r5 i (j - 1) (by omega) (by omega)
    · rw [z, ins_at, ins_at, ins_hi (by omega), ins_hi (by omega)]
      exact hiB (j - 1) (by omega) (by omega)
    · rw [ins_hi z, ins_hi z, ins_hi (by omega), ins_hi (by omega)]; exact r5 (i - 1) (j - 1) (by omega) (by omega)
theorem rel_cut {ck k2 wk : Nat} {T0 T1 T2 CM TN CS g0 g1 g2 g3 m1 m2 m3 : Nat → Int32} {tal al2 a1 a2 a3 r1 r2 : Int32} (h : relC ck T0 T1 T2 CM TN CS tal) (hwk : wk ≤ 10)
    (q1 : (∃ w, (w < wk ∧ a1 = nI w ∧ ctC wk a1 a2 a3 ∧ CM w < 4) ∧ r1 = CM w + 1 ∧ k2 = ck + 1 ∧ al2 = tal + a2 ∧ g0 = rSq T0 (ofP T0 T2 (nI w) a3 ck) ck (nI w) ∧ g1 = rSq T1 (ofP T0 T2 (nI w) a3 ck) ck a2 ∧ g2 = rSq T2 (ofP T0 T2 (nI w) a3 ck) ck a3 ∧ g3 = upd CM w (CM w + 1)) ∨ ((∀ w, ¬ (w < wk ∧ a1 = nI w ∧ ctC wk a1 a2 a3 ∧ CM w < 4)) ∧ r1 = -1 ∧ k2 = ck ∧ al2 = tal ∧ g0 = T0 ∧ g1 = T1 ∧ g2 = T2 ∧ g3 = CM))
    (q2 : (∃ w e, (w < wk ∧ a1 = nI w ∧ ctC wk a1 a2 a3 ∧ CM w = nI e ∧ e < 4) ∧ r2 = CM w + 1 ∧ m1 = upd TN (4 * w + e) a2 ∧ m2 = upd CS (4 * w + e) a3 ∧ m3 = upd CM w (CM w + 1)) ∨ ((∀ w, ¬ (w < wk ∧ a1 = nI w ∧ ctC wk a1 a2 a3 ∧ CM w < 4)) ∧ r2 = -1 ∧ m1 = TN ∧ m2 = CS ∧ m3 = CM)) :
    r1 = r2 ∧ g3 = m3 ∧ relC k2 g0 g1 g2 m3 m1 m2 al2 := by
  rcases q1 with ⟨w, a, e1, e2, e3, e4, e5, e6, e7⟩ | ⟨a, e1, e2, e3, e4, e5, e6, e7⟩ <;> rcases q2 with ⟨w2, e, b, f1, f2, f3, f4⟩ | ⟨b, f1, f2, f3, f4⟩
  · have ew : w = w2 := (nI_eq (by omega) (by omega)).mp (a.2.1.symm.trans b.2.1)
    subst ew
    obtain ⟨h1, h2, ⟨s, hR⟩, h4⟩ := h
    have hw10 : w < 10 := by omega
    have hp := ofP_le T0 T2 (nI w) a3 ck
    have hCM := b.2.2.2.1
    have he := b.2.2.2.2
    refine ⟨by rw [e1, f1], by rw [e7, f4], ?_⟩
    rw [e2, e3, e4, e5, e6, f2, f3, f4]
    refine ⟨?_, fun v hv => ?_, ⟨_, ctR_cut hR hw10 he hCM a.2.2.1.2.1 a.2.2.1.2.2⟩, ?_⟩
    · rw [h1]
      refine (smN_1 (w := w) ?_ (fun j hj => ?_) hw10).symm
      · show (upd CM w (CM w + 1) w).toNatClampNeg = (CM w).toNatClampNeg + 1
        rw [pk_us, hCM, show nI e + 1 = nI (e + 1) from nI_1 e, nI_clamp (by omega), nI_clamp (by omega)]
      · show (upd CM w (CM w + 1) j).toNatClampNeg = (CM j).toNatClampNeg
        rw [pk_un hj]
    · by_cases z : v = w
      · rw [z, pk_us, hCM]; exact ⟨e + 1, by omega, nI_1 e⟩
      · rw [pk_un z]; exact h2 v hv
    · rw [shS_congr (f := rSq T1 (ofP T0 T2 (nI w) a3 ck) ck a2) (g := insF T1 (ofP T0 T2 (nI w) a3 ck) a2) (fun j hj => rSq_ins (by omega)), shS_ins hp, h4]
  · exact absurd a (b w)
  · refine absurd ⟨b.1, b.2.1, b.2.2.1, ?_⟩ (a w2)
    rw [b.2.2.2.1]; exact nI_lt (b := 4) b.2.2.2.2 (by omega)
  · refine ⟨by rw [e1, f1], by rw [e7, f4], ?_⟩
    rw [e2, e3, e4, e5, e6, f2, f3, f4]; exact h
