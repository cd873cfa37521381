/-- a value put at the place p of a row -/
def insF {α : Type} (f : Nat → α) (p : Nat) (v : α) : Nat → α := fun j => if j = p then v else if p < j then f (j - 1) else f j
theorem ins_lo {α : Type} {f : Nat → α} {p j : Nat} {v : α} (h : j < p) : insF f p v j = f j := by unfold insF; rw [if_neg (by omega), if_neg (by omega)]
theorem ins_at {α : Type} {f : Nat → α} {p : Nat} {v : α} : insF f p v p = v := if_pos rfl
theorem ins_hi {α : Type} {f : Nat → α} {p j : Nat} {v : α} (h : p < j) : insF f p v j = f (j - 1) := by unfold insF; rw [if_neg (by omega), if_pos h]
theorem rSq_ins {f : Nat → Int32} {p q j : Nat} {x : Int32} (hj : j ≤ q) : rSq f p q x j = insF f p x j := by
  unfold rSq insF
  by_cases e : j = p
  · rw [if_pos e, if_pos e]
  · rw [if_neg e, if_neg e]
    by_cases e2 : p < j
    · rw [if_pos ⟨e2, hj⟩, if_pos e2]
    · rw [if_neg (fun z => e2 z.1), if_neg e2]
theorem shS_ins {f : Nat → Int32} {p : Nat} {v : Int32} : ∀ {n : Nat}, p ≤ n → shS (insF f p v) (n + 1) = shS f n + v
  | 0, h => by
    have : p = 0 := by omega
    subst this
    show shS (insF f 0 v) 0 + insF f 0 v 0 = _
    rw [ins_at]; rfl
  | n + 1, h => by
    show shS (insF f p v) (n + 1) + insF f p v (n + 1) = shS f n + f n + v
    by_cases e : p = n + 1
    · subst e
      rw [ins_at, shS_congr (f := insF f (n + 1) v) (g := f) (fun j hj => ins_lo hj)]; rfl
    · rw [ins_hi (by omega), shS_ins (by omega)]
      exact i_rc _ _ _
/-- three ways for a place in the longer row -/
theorem ins_cases {P : Nat → Prop} {p n i : Nat} (hi : i < n + 1) (hp : p ≤ n) (h1 : i < p → i < n → P i) (h2 : i = p → P i) (h3 : ∀ j, p ≤ j → j < n → i = j + 1 → P i) : P i := by
  rcases Nat.lt_trichotomy i p with q | q | q
  · exact h1 q (by omega)
  · exact h2 q
  · exact h3 (i - 1) (by omega) (by omega) (by omega)
theorem enP_hi {f : Nat → Int32} {x : Int32} : ∀ {k i : Nat}, enP f x k ≤ i → i < k → f i < x
  | 0, i, _, h => absurd h (by omega)
  | k + 1, i, h1, h2 => by
    unfold enP at h1
    split at h1
    · omega
    · rename_i q
      by_cases e : i = k
      · rw [e]; exact i_nle q
      · exact enP_hi h1 (by omega)
theorem enP_lo {f : Nat → Int32} {x : Int32} : ∀ {k : Nat}, 0 < enP f x k → x ≤ f (enP f x k - 1)
  | 0, h => absurd h (Nat.lt_irrefl 0)
  | k + 1, h => by
    unfold enP at h ⊢
    split
    · rename_i q; exact q
    · rename_i q
      rw [if_neg q] at h
      exact enP_lo h
theorem clamp_lt {a b : Int32} {m n : Nat} (ha : a = nI m) (hb : b = nI n) (hm : m < 2 ^ 31) (hn : n < 2 ^ 31) : (a < b ↔ a.toNatClampNeg < b.toNatClampNeg) ∧ (a ≤ b ↔ a.toNatClampNeg ≤ b.toNatClampNeg) ∧ (a = b ↔ a.toNatClampNeg = b.toNatClampNeg) := by
  rw [ha, hb, nI_clamp hm, nI_clamp hn]
  exact ⟨nI_ltI hm hn, nI_leI hm hn, nI_eq hm hn⟩
theorem bdR_bid {B0 B1 B2 bW bM bP : Nat → Int32} {bk wk : Nat} {s : Nat → Nat} {a1 a2 a3 : Int32} (hR : bdR B0 B1 B2 bk bW bM bP s) (hwk : wk ≤ 10) (hc : bdC wk bk a1 a2 a3) :
    bdR (rSq B0 (enP B2 a3 bk) bk a1) (rSq B1 (enP B2 a3 bk) bk a2) (rSq B2 (enP B2 a3 bk) bk a3) (bk + 1) (upd bW bk a1) (upd bM bk a2) (upd bP bk a3) (insF s (enP B2 a3 bk) bk) := by
  have hp := enP_le B2 a3 bk
  have hhi : ∀ i, enP B2 a3 bk ≤ i → i < bk → B2 i < a3 := fun i a b => enP_hi a b
  have hlo : 0 < enP B2 a3 bk → a3 ≤ B2 (enP B2 a3 bk - 1) := fun h => enP_lo h
  generalize enP B2 a3 bk = p at hp hhi hlo ⊢
  obtain ⟨⟨w0, hw0, ew0⟩, ⟨h21, h22⟩, ⟨h31, h32⟩, hbk⟩ := hc
  obtain ⟨n2, hn2, hn22, en2⟩ := w_1in (c := 400) (by omega) h21 h22
  obtain ⟨n3, hn3, en3⟩ := w_in (N := 999) (by omega) h31 h32
  obtain ⟨r1, r2, r3, r4, r5, r6⟩ := id hR
  have c2 : ∀ i, i < bk → (a3 ≤ B2 i ↔ a3.toNatClampNeg ≤ (B2 i).toNatClampNeg) ∧ (B2 i < a3 ↔ (B2 i).toNatClampNeg < a3.toNatClampNeg) ∧ (B2 i = a3 ↔ (B2 i).toNatClampNeg = a3.toNatClampNeg) := fun i hi => by
    obtain ⟨c, hc, ec⟩ := r4 i hi
    have u := clamp_lt en3 ec (by omega) (by omega)
    have v := clamp_lt ec en3 (by omega) (by omega)
    exact ⟨u.2.1, v.1, v.2.2⟩
  have q0 : ∀ (f : Nat → Int32) (v : Int32) (i : Nat), i < bk + 1 → rSq f p bk v i = insF f p v i := fun f v i hi => rSq_ins (by omega)
  have us : ∀ (f : Nat → Int32) (v : Int32) (j : Nat), j < bk → upd f bk v j = f j := fun f v j hj => pk_un (by omega)
  refine ⟨fun i hi => ?_, fun i hi => ?_, fun i hi => ?_, fun i hi => ?_, fun x hx => ?_, fun i j hij hj => ?_⟩
  · rw [q0 B0 a1 i hi, q0 B1 a2 i hi, q0 B2 a3 i hi]
    refine ins_cases (P := fun i => insF s p bk i < bk + 1 ∧ insF B0 p a1 i = upd bW bk a1 (insF s p bk i) ∧ insF B1 p a2 i = upd bM bk a2 (insF s p bk i) ∧ insF B2 p a3 i = upd bP bk a3 (insF s p bk i)) hi hp (fun z y => ?_) (fun z => ?_) (fun j z y e => ?_)
    · obtain ⟨u0, u1, u2, u3⟩ := r1 i y
      rw [ins_lo z, ins_lo z, ins_lo z, ins_lo z, us _ _ _ u0, us _ _ _ u0, us _ _ _ u0]; exact ⟨by omega, u1, u2, u3⟩
    · rw [z, ins_at, ins_at, ins_at, ins_at, pk_us, pk_us, pk_us]; exact ⟨by omega, rfl, rfl, rfl⟩
    · obtain ⟨u0, u1, u2, u3⟩ := r1 j y
      rw [e, ins_hi (by omega), ins_hi (by omega), ins_hi (by omega), ins_hi (by omega), Nat.add_sub_cancel, us _ _ _ u0, us _ _ _ u0, us _ _ _ u0]; exact ⟨by omega, u1, u2, u3⟩
  · rw [q0 _ _ i hi]
    refine ins_cases (P := fun i => ∃ b, 1 ≤ b ∧ b ≤ 400 ∧ insF B1 p a2 i = nI b) hi hp (fun z y => ?_) (fun z => ?_) (fun j z y e => ?_)
    · rw [ins_lo z]; exact r2 i y
    · rw [z, ins_at]; exact ⟨n2, hn2, hn22, en2⟩
    · rw [e, ins_hi (by omega), Nat.add_sub_cancel]; exact r2 j y
  · rw [q0 _ _ i hi]
    refine ins_cases (P := fun i => ∃ w, w < 10 ∧ insF B0 p a1 i = nI w) hi hp (fun z y => ?_) (fun z => ?_) (fun j z y e => ?_)
    · rw [ins_lo z]; exact r3 i y
    · rw [z, ins_at]; exact ⟨w0, by omega, ew0⟩
    · rw [e, ins_hi (by omega), Nat.add_sub_cancel]; exact r3 j y
  · rw [q0 _ _ i hi]
    refine ins_cases (P := fun i => ∃ c, c ≤ 999 ∧ insF B2 p a3 i = nI c) hi hp (fun z y => ?_) (fun z => ?_) (fun j z y e => ?_)
    · rw [ins_lo z]; exact r4 i y
    · rw [z, ins_at]; exact ⟨n3, by omega, en3⟩
    · rw [e, ins_hi (by omega), Nat.add_sub_cancel]; exact r4 j y
  · by_cases e : x = bk
    · exact ⟨p, by omega, by rw [ins_at, e]⟩
    · obtain ⟨i, hi, ei⟩ := r5 x (by omega)
      rcases Nat.lt_or_ge i p with z | z
      · exact ⟨i, by omega, by rw [ins_lo z]; exact ei⟩
      · exact ⟨i + 1, by omega, by rw [ins_hi (by omega), Nat.add_sub_cancel]; exact ei⟩
  · rw [q0 _ _ i (by omega), q0 _ _ j hj]
    have lo : ∀ i, i < p → a3.toNatClampNeg ≤ (B2 i).toNatClampNeg := fun i hi => by
      have hl := ((c2 (p - 1) (by omega)).1).mp (hlo (by omega))
      by_cases e : i = p - 1
      · rw [e]; exact hl
      · rcases r6 i (p - 1) (by omega) (by omega) with y | ⟨y, _⟩
        · omega
        · rw [y]; exact hl
    have hiB : ∀ i, p ≤ i → i < bk → (B2 i).toNatClampNeg < a3.toNatClampNeg := fun i a b => (c2 i b).2.1.mp (hhi i a b)
    rcases Nat.lt_trichotomy i p with z | z | z
    · rcases Nat.lt_trichotomy j p with y | y | y
      · rw [ins_lo z, ins_lo z, ins_lo y, ins_lo y]; exact r6 i j hij (by omega)
      · rw [y, ins_lo z, ins_lo z, ins_at, ins_at]
        rcases Nat.lt_or_ge a3.toNatClampNeg (B2 i).toNatClampNeg with x | x
        · exact Or.inl x
        · exact Or.inr ⟨(c2 i (by omega)).2.2.mpr (Nat.le_antisymm x (lo i z)), (r1 i (by omega)).1⟩
      · rw [ins_lo z, ins_lo z, ins_hi y, ins_hi y]; exact r6 i (j - 1) (by omega) (by omega)
    · rw [z, ins_at, ins_at, ins_hi (by omega), ins_hi (by omega)]
      exact Or.inl (hiB (j - 1) (by omega) (by omega))
    · rw [ins_hi z, ins_hi z, ins_hi (by omega), ins_hi (by omega)]; exact r6 (i - 1) (j - 1) (by omega) (by omega)
theorem rel_bid {B0 B1 B2 B3 bW bM bP : Nat → Int32} {bk wk : Nat} {a1 a2 a3 : Int32} (h : relB bk wk B0 B1 B2 B3 bW bM bP) (hwk : wk ≤ 10) (hc : bdC wk bk a1 a2 a3) :
    relB (bk + 1) wk (rSq B0 (enP B2 a3 bk) bk a1) (rSq B1 (enP B2 a3 bk) bk a2) (rSq B2 (enP B2 a3 bk) bk a3) (upd B3 bk 0) (upd bW bk a1) (upd bM bk a2) (upd bP bk a3) := by
  obtain ⟨h1, ⟨s, hR, hs⟩, h3, h4⟩ := h
  have hp := enP_le B2 a3 bk
  refine ⟨hc.2.2.2, ⟨_, bdR_bid hR hwk hc, fun F => ?_⟩, fun i hi => ?_, fun i hi => ?_⟩
  · rw [shS_congr (f := fun i => F (insF s (enP B2 a3 bk) bk i)) (g := insF (fun i => F (s i)) (enP B2 a3 bk) (F bk)) (fun j hj => ?_), shS_ins hp, hs F]
    · rfl
    · unfold insF
      split
      · rfl
      · split <;> rfl
  · by_cases e : i = bk
    · rw [e, pk_us]
    · rw [pk_un e]; exact h3 i (by omega)
  · rw [rSq_ins (by omega)]
    refine ins_cases (P := fun i => ∃ w, w < wk ∧ insF B0 (enP B2 a3 bk) a1 i = nI w) hi hp (fun z y => ?_) (fun z => ?_) (fun j z y e => ?_)
    · rw [ins_lo z]; exact h4 i y
    · rw [z, ins_at]; exact hc.1
    · rw [e, ins_hi (by omega), Nat.add_sub_cancel]; exact h4 j y
