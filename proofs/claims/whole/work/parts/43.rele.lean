theorem gapV_le {RD : Nat → Int32} {w y : Nat} (hw : w < 10) (hy : y < 20) (h : relM RD) : ∃ v, v ≤ 109 ∧ gapV RD w y = nI v := by
  unfold gapV
  rcases gapT_ix hw hy h with e | ⟨v, hv, e⟩
  · rw [if_pos e]; exact ⟨10, by omega, rfl⟩
  · rw [if_neg (by rw [e]; exact fun z => nI_pos (show v < 2 ^ 31 by omega) (by rw [z]; decide)), e, gp_x hv]
    split
    · exact ⟨(v * 110 + 99) / 100, by omega, rfl⟩
    · exact ⟨1, by omega, rfl⟩
theorem fouS_le {f : Nat → Int32} {g : Int32} {b : Nat} (hg : ∃ v, v ≤ 109 ∧ g = nI v) : ∀ {q : Nat}, (∀ j, j < q → f (b + j) = -1 ∨ ∃ v, v < 100 ∧ f (b + j) = nI v) → ∃ s, s ≤ 109 * q ∧ fouS f g b q = nI s
  | 0, _ => ⟨0, by omega, rfl⟩
  | q + 1, h => by
    obtain ⟨s, hs, es⟩ := fouS_le (f := f) (b := b) hg (q := q) (fun j hj => h j (by omega))
    show ∃ s, s ≤ 109 * (q + 1) ∧ fouS f g b q + (if f (b + q) = -1 then g else f (b + q)) = nI s
    rw [es]
    by_cases e : f (b + q) = -1
    · obtain ⟨v, hv, ev⟩ := hg
      rw [if_pos e, ev, nI_add]; exact ⟨s + v, by omega, rfl⟩
    · obtain ⟨v, hv, ev⟩ := (h q (by omega)).resolve_left e
      rw [if_neg e, ev, nI_add]; exact ⟨s + v, by omega, rfl⟩
theorem fouV_le {RD : Nat → Int32} {w y : Nat} (hw : w < 10) (hy : y < 20) (h : relM RD) : ∃ s, s ≤ 436 ∧ fouV RD w y = nI s := by
  obtain ⟨s, hs, e⟩ := fouS_le (gapV_le hw hy h) (f := RD) (b := (w * 20 + y) * 4) (q := 4) (fun j hj => h _ (by omega))
  exact ⟨s, by omega, e⟩
theorem fouA_le {RD : Nat → Int32} {y : Nat} (hy : y < 20) (h : relM RD) : ∀ {w : Nat}, w ≤ 10 → ∃ s, s ≤ 436 * w ∧ fouA RD y w = nI s
  | 0, _ => ⟨0, by omega, rfl⟩
  | w + 1, hw => by
    obtain ⟨s, hs, es⟩ := fouA_le hy h (show w ≤ 10 by omega)
    obtain ⟨v, hv, ev⟩ := fouV_le (show w < 10 by omega) hy h
    show ∃ s, s ≤ 436 * (w + 1) ∧ fouA RD y w + fouV RD w y = nI s
    rw [es, ev, nI_add]; exact ⟨s + v, by omega, rfl⟩
theorem shS_congr {f g : Nat → Int32} : ∀ {n : Nat}, (∀ j, j < n → f j = g j) → shS f n = shS g n
  | 0, _ => rfl
  | n + 1, h => by show shS f n + f n = shS g n + g n; rw [shS_congr (fun j hj => h j (by omega)), h n (by omega)]
theorem i_rc (a b c : Int32) : a + b + c = a + c + b := by rw [Int32.add_assoc, Int32.add_comm b c, ← Int32.add_assoc]
theorem shS_upd {f : Nat → Int32} {w : Nat} {v : Int32} : ∀ {n : Nat}, w < n → shS (upd f w (f w + v)) n = shS f n + v
  | 0, h => absurd h (by omega)
  | n + 1, h => by
    show shS (upd f w (f w + v)) n + upd f w (f w + v) n = shS f n + f n + v
    by_cases e : w = n
    · subst e
      rw [pk_us, shS_congr (f := upd f w (f w + v)) (g := f) (fun j hj => pk_un (by omega)), Int32.add_assoc]
    · rw [pk_un (fun z => e z.symm), shS_upd (by omega), i_rc]
theorem end_step {k wk pj w nd : Nat} {st P1 P2 ui P4 P5 ST HO YO UI PO WE ue : Nat → Int32} {us ca y : Int32} (h : relQ k wk pj st P1 P2 ui P4 P5 ST HO YO UI PO WE us ca ue) (hwk : wk ≤ 10) (hw : w < wk) :
    relQ k wk pj (usI P1 k (w + 1) y (uzN ST HO k w nd) st ui).1 P1 P2 (usI P1 k (w + 1) y (uzN ST HO k w nd) st ui).2 P4 P5 (usI HO k (w + 1) y (uzN ST HO k w nd) ST UI).1 HO YO (usI HO k (w + 1) y (uzN ST HO k w nd) ST UI).2 PO WE (us + nI (uzN ST HO k w nd)) ca (upd ue w (ue w + nI (uzN ST HO k w nd))) := by
  obtain ⟨a1, a2, a3, a4, a5, a6, a7⟩ := h
  have hn : uzN ST HO k w nd ≤ cntP (hW ST HO (w + 1)) k := Nat.min_le_right _ _
  refine ⟨fun j hj => ?_, a2, a3, a4, ?_, ?_, fun v hv => ?_⟩
  · obtain ⟨b0, b1, b2, b3, b4, b5⟩ := a1 j hj
    obtain ⟨c1, c2⟩ := usI_rel (y := y) (wi := w + 1) (n := uzN ST HO k w nd) (fun i hi => (a1 i hi).2.1) (fun i hi => (a1 i hi).1) (fun i hi => (a1 i hi).2.2.2.1) j hj
    exact ⟨c1, b1, b2, c2, b4, b5⟩
  · rw [usI_cnt (by omega) (by decide) hn, if_pos ⟨rfl, Or.inl rfl⟩, ← nI_add, a5]
  · rw [usI_cnt (by omega) (by decide) hn, usI_cnt (by omega) (by decide) hn, if_neg (fun z => absurd z.1 (by decide)), if_neg (fun z => absurd z.1 (by decide))]; exact a6
  · rw [usI_cnt (by omega) (by decide) hn]
    by_cases e : v = w
    · rw [e, pk_us, if_pos ⟨rfl, Or.inr rfl⟩, ← nI_add, a7 w (by omega)]
    · rw [pk_un e, if_neg (fun z => ?_), a7 v hv, Nat.add_zero]
      rcases z.2 with q | q
      · exact nI_pos (show v < 2 ^ 31 by omega) (by rw [q]; decide)
      · exact e ((nI_eq (by omega) (by omega)).mp q).symm
def enRel (k wk pj : Nat) (P1 P2 P4 P5 HO YO PO WE : Nat → Int32) (ca : Int32) (c : ES) (m : EM) : Prop :=
  c.2.2.2.1 = m.2.2.1 ∧ c.2.2.2.2.1 = m.2.2.2.1 ∧ c.2.2.2.2.2.2.1 = m.2.2.2.2.1 ∧ c.2.2.2.2.2.2.2.2 = m.2.2.2.2.2 ∧ c.2.2.2.2.2.2.2.1 = shS m.2.2.2.2.1 10 ∧ relQ k wk pj c.1 P1 P2 c.2.1 P4 P5 m.1 HO YO m.2.1 PO WE c.2.2.1 ca c.2.2.2.2.2.1
theorem enRel_step {k wk pj now w : Nat} {rd P1 P2 P4 P5 HO YO PO WE : Nat → Int32} {ca fine : Int32} {c : ES} {m : EM} (hwk : wk ≤ 10) (hw : w < wk) (h : enRel k wk pj P1 P2 P4 P5 HO YO PO WE ca c m) : enRel k wk pj P1 P2 P4 P5 HO YO PO WE ca (enStep rd P1 k now fine w c) (enMs rd HO k now fine w m) := by
  obtain ⟨st, ui, us, co, de, ue, fi, fa, lk⟩ := c
  obtain ⟨ST, UI, CO, DE, FI, LK⟩ := m
  obtain ⟨h1, h2, h3, h4, h5, h6⟩ := h
  dsimp only at h1 h2 h3 h4 h5 h6
  subst h1; subst h2; subst h3; subst h4
  have hu : ∀ nd, uzN st P1 k w nd = uzN ST HO k w nd := fun nd => by unfold uzN; rw [relQ_cnt h6]
  refine ⟨?_, ?_, ?_, ?_, ?_, ?_⟩
  · simp only [enStep, enMs, hu]
    rw [Int32.neg_mul, Int32.sub_eq_add_neg]
  · simp only [enStep, enMs, hu]
  · simp only [enStep, enMs, hu]
  · simp only [enStep, enMs, hu]
  · simp only [enStep, enMs, hu]
    rw [shS_upd (by omega), h5]
  · simp only [enStep, enMs, hu]
    exact end_step h6 hwk hw
theorem enRel_all {k wk pj now : Nat} {rd P1 P2 P4 P5 HO YO PO WE : Nat → Int32} {ca fine : Int32} {c : ES} {m : EM} (hwk : wk ≤ 10) (h : enRel k wk pj P1 P2 P4 P5 HO YO PO WE ca c m) : ∀ {w : Nat}, w ≤ wk → enRel k wk pj P1 P2 P4 P5 HO YO PO WE ca (enI rd P1 k now fine c w) (enM rd HO k now fine m w)
  | 0, _ => h
  | w + 1, hw => enRel_step hwk hw (enRel_all hwk h (by omega))
