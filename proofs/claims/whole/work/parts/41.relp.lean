theorem fsP_congr {P Q : Nat → Bool} : ∀ {fu p : Nat}, (∀ j, p ≤ j → j < p + fu → P j = Q j) → fsP P fu p = fsP Q fu p
  | 0, _, _ => rfl
  | fu + 1, p, h => by
    unfold fsP
    rw [h p (Nat.le_refl _) (by omega), fsP_congr (fun j a b => h j (by omega) (by omega))]
theorem stR_0 {a b : Int32} (h : stR a b) : a = 0 ↔ b = 0 := by
  rcases h with ⟨rfl, rfl⟩ | ⟨rfl, rfl⟩ | ⟨rfl, rfl⟩ | ⟨rfl, rfl⟩ <;> decide
theorem hW_rel {st st2 ho ho2 : Nat → Int32} {k wi : Nat} (hs : ∀ j, j < k → (st j = 0 ↔ st2 j = 0)) (hh : ∀ j, j < k → ho j = ho2 j) : ∀ j, j < k → hW st ho wi j = hW st2 ho2 wi j := fun j hj => by
  unfold hW
  rw [hh j hj]
  exact decide_eq_decide.mpr ⟨fun q => ⟨(hs j hj).mp q.1, q.2⟩, fun q => ⟨(hs j hj).mpr q.1, q.2⟩⟩
theorem upd_rel {f g : Nat → Int32} {k p : Nat} {v w : Int32} (h : ∀ j, j < k → f j = g j) (hv : p < k → v = w) : ∀ j, j < k → upd f p v j = upd g p w j := fun j hj => by
  by_cases e : j = p
  · subst e; rw [pk_us, pk_us]; exact hv hj
  · rw [pk_un e, pk_un e]; exact h j hj
theorem psI_rel {st st2 : Nat → Int32} {k wf : Nat} {to : Int32} (hs : ∀ j, j < k → (st j = 0 ↔ st2 j = 0)) : ∀ {n : Nat} {ho mv ho2 mv2 : Nat → Int32}, (∀ j, j < k → ho j = ho2 j) → (∀ j, j < k → mv j = mv2 j) → ∀ j, j < k → (psI st k wf to n ho mv).1 j = (psI st2 k wf to n ho2 mv2).1 j ∧ (psI st k wf to n ho mv).2 j = (psI st2 k wf to n ho2 mv2).2 j
  | 0, _, _, _, _, h1, h2 => fun j hj => ⟨h1 j hj, h2 j hj⟩
  | n + 1, ho, mv, ho2, mv2, h1, h2 => by
    have e : fsP (hW st ho wf) k 0 = fsP (hW st2 ho2 wf) k 0 := fsP_congr (fun j _ b => hW_rel hs h1 j (by omega))
    unfold psI
    rw [e]
    exact psI_rel hs (upd_rel h1 (fun _ => rfl)) (upd_rel h2 (fun hp => by rw [h2 _ hp]))
theorem psI_st {st : Nat → Int32} {k wf wt : Nat} {to : Int32} (hto : to + 1 = nI wt) (hne : wf ≠ wt) (hf : wf < 11) (ht : wt < 11) : ∀ {n : Nat} {ho mv : Nat → Int32}, n ≤ cntP (hW st ho wf) k → ∀ j, ((psI st k wf to n ho mv).1 j = ho j ∨ ((psI st k wf to n ho mv).1 j = to ∧ st j = 0 ∧ j < k)) ∧ (k ≤ j → (psI st k wf to n ho mv).2 j = mv j)
  | 0, _, _, _ => fun j => ⟨Or.inl rfl, fun _ => rfl⟩
  | n + 1, ho, mv, h => fun j => by
    have hpos : 0 < cntP (hW st ho wf) k := by omega
    have hp := fsP_lt hpos
    have hpt := fsP_at hpos
    have q := cnt_pass hp hpt hto hne hf ht wf hf
    rw [if_pos rfl, if_neg hne] at q
    have ih := psI_st (st := st) (k := k) hto hne hf ht (n := n) (ho := upd ho (fsP (hW st ho wf) k 0) to) (mv := upd mv (fsP (hW st ho wf) k 0) (mv (fsP (hW st ho wf) k 0) + 1)) (by omega) j
    unfold psI
    refine ⟨?_, fun hk => (ih.2 hk).trans (pk_un (by omega))⟩
    rcases ih.1 with z | z
    · by_cases e : j = fsP (hW st ho wf) k 0
      · rw [z, e, pk_us]; exact Or.inr ⟨rfl, (of_decide_eq_true hpt).1, hp⟩
      · rw [pk_un e] at z; exact Or.inl z
    · exact Or.inr z
theorem usI_rel {ho ho2 : Nat → Int32} {k wi : Nat} {y : Int32} (hh : ∀ j, j < k → ho j = ho2 j) : ∀ {n : Nat} {st ui st2 ui2 : Nat → Int32}, (∀ j, j < k → stR (st j) (st2 j)) → (∀ j, j < k → ui j = ui2 j) → ∀ j, j < k → stR ((usI ho k wi y n st ui).1 j) ((usI ho2 k wi y n st2 ui2).1 j) ∧ (usI ho k wi y n st ui).2 j = (usI ho2 k wi y n st2 ui2).2 j
  | 0, _, _, _, _, h1, h2 => fun j hj => ⟨h1 j hj, h2 j hj⟩
  | n + 1, st, ui, st2, ui2, h1, h2 => by
    have e : fsP (hW st ho wi) k 0 = fsP (hW st2 ho2 wi) k 0 := fsP_congr (fun j _ b => hW_rel (fun j hj => stR_0 (h1 j hj)) hh j (by omega))
    unfold usI
    rw [e]
    refine usI_rel hh (fun j hj => ?_) (upd_rel h2 (fun _ => rfl))
    by_cases q : j = fsP (hW st2 ho2 wi) k 0
    · rw [q, pk_us, pk_us]; exact Or.inr (Or.inl ⟨rfl, rfl⟩)
    · rw [pk_un q, pk_un q]; exact h1 j hj
theorem skI_rel {ho ho2 : Nat → Int32} {k wi : Nat} (hh : ∀ j, j < k → ho j = ho2 j) : ∀ {n : Nat} {st st2 : Nat → Int32}, (∀ j, j < k → stR (st j) (st2 j)) → ∀ j, j < k → stR (skI ho k wi n st j) (skI ho2 k wi n st2 j)
  | 0, _, _, h1 => fun j hj => h1 j hj
  | n + 1, st, st2, h1 => by
    have e : fsP (hW st ho wi) k 0 = fsP (hW st2 ho2 wi) k 0 := fsP_congr (fun j _ b => hW_rel (fun j hj => stR_0 (h1 j hj)) hh j (by omega))
    unfold skI
    rw [e]
    refine skI_rel hh (fun j hj => ?_)
    by_cases q : j = fsP (hW st2 ho2 wi) k 0
    · rw [q, pk_us, pk_us]; exact Or.inr (Or.inr (Or.inl ⟨rfl, rfl⟩))
    · rw [pk_un q, pk_un q]; exact h1 j hj
/-- one permit's state set: counts of a state that isn't HELD -/
theorem cOf_set {st ho : Nat → Int32} {k p : Nat} {v x a : Int32} (hp : p < k) (h0 : st p = 0) (hv : ¬ v = 0) : cntP (cOf (upd st p a) ho v x) k = cntP (cOf st ho v x) k + (if a = v ∧ (x = -2147483648 ∨ ho p = x) then 1 else 0) := by
  have off : ∀ j, j ≠ p → cOf (upd st p a) ho v x j = cOf st ho v x j := fun j hj => by unfold cOf; rw [pk_un hj]
  have at0 : cOf st ho v x p = false := decide_eq_false (fun z => hv (z.1.symm.trans h0))
  have at1 : cOf (upd st p a) ho v x p = decide (a = v ∧ (x = -2147483648 ∨ ho p = x)) := by unfold cOf; rw [pk_us]
  by_cases e : a = v ∧ (x = -2147483648 ∨ ho p = x)
  · rw [if_pos e]
    exact (cntP_drop hp (fun j hj => (off j hj).symm) (by rw [at1]; exact decide_eq_true e) at0).symm
  · rw [if_neg e]
    refine cntP_congr (fun j _ => ?_)
    by_cases q : j = p
    · rw [q, at1, at0]; exact decide_eq_false e
    · exact off j q
theorem usI_cnt {ho : Nat → Int32} {k w : Nat} {y v x : Int32} (hw : w < 10) (hv : ¬ v = 0) : ∀ {n : Nat} {st ui : Nat → Int32}, n ≤ cntP (hW st ho (w + 1)) k → cntP (cOf (usI ho k (w + 1) y n st ui).1 ho v x) k = cntP (cOf st ho v x) k + (if 1 = v ∧ (x = -2147483648 ∨ nI w = x) then n else 0)
  | 0, st, ui, _ => by show cntP (cOf st ho v x) k = _; split <;> rfl
  | n + 1, st, ui, h => by
    have hpos : 0 < cntP (hW st ho (w + 1)) k := by omega
    have hp := fsP_lt hpos
    have hpt := of_decide_eq_true (fsP_at hpos)
    have hho : ho (fsP (hW st ho (w + 1)) k 0) = nI w := i1_inj (hpt.2.trans (nI_1 w).symm)
    have q := cnt_gone (x := 1) hp (fsP_at hpos) (by decide) (show w + 1 < 11 by omega) (w + 1) (by omega)
    rw [if_pos rfl] at q
    have ih := usI_cnt (ho := ho) (k := k) (y := y) (v := v) (x := x) hw hv (n := n) (st := upd st (fsP (hW st ho (w + 1)) k 0) 1) (ui := upd ui (fsP (hW st ho (w + 1)) k 0) y) (by omega)
    unfold usI
    rw [ih, cOf_set hp hpt.1 hv, hho]
    split <;> omega
theorem skI_cnt {ho : Nat → Int32} {k w : Nat} {v x : Int32} (hw : w < 10) (hv : ¬ v = 0) : ∀ {n : Nat} {st : Nat → Int32}, n ≤ cntP (hW st ho (w + 1)) k → cntP (cOf (skI ho k (w + 1) n st) ho v x) k = cntP (cOf st ho v x) k + (if 2 = v ∧ (x = -2147483648 ∨ nI w = x) then n else 0)
  | 0, st, _ => by show cntP (cOf st ho v x) k = _; split <;> rfl
  | n + 1, st, h => by
    have hpos : 0 < cntP (hW st ho (w + 1)) k := by omega
    have hp := fsP_lt hpos
    have hpt := of_decide_eq_true (fsP_at hpos)
    have hho : ho (fsP (hW st ho (w + 1)) k 0) = nI w := i1_inj (hpt.2.trans (nI_1 w).symm)
    have q := cnt_gone (x := 2) hp (fsP_at hpos) (by decide) (show w + 1 < 11 by omega) (w + 1) (by omega)
    rw [if_pos rfl] at q
    have ih := skI_cnt (ho := ho) (k := k) (v := v) (x := x) hw hv (n := n) (st := upd st (fsP (hW st ho (w + 1)) k 0) 2) (by omega)
    unfold skI
    rw [ih, cOf_set hp hpt.1 hv, hho]
    split <;> omega
