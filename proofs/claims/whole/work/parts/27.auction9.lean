def pI (pp : Nat) : Int32 := nI pp - 1
theorem pI_s {pp : Nat} (h : 0 < pp) : pI pp + (-1) = pI (pp - 1) := by
  unfold pI
  rw [fx_m1 h, ← fx_m1 h, fx_m1 h]
  exact (Int32.sub_eq_add_neg ..).symm
theorem pI_pos {pp : Nat} (h : 0 < pp) : pI pp = nI (pp - 1) := fx_m1 h
theorem pI_lt {pp f : Nat} (hp : pp ≤ 1000) (hf : f ≤ 99) : pI pp < nI f ↔ pp ≤ f := by
  rcases Nat.eq_zero_or_pos pp with e | e
  · subst e
    exact ⟨fun _ => Nat.zero_le _, fun _ => Int32.lt_iff_toInt_lt.mpr (by rw [nI_toInt (by omega)]; show (-1 : Int) < _; omega)⟩
  · rw [pI_pos e, nI_ltI (by omega) (by omega)]; omega
theorem pI_eq {pp c : Nat} (hp : 0 < pp) (hp2 : pp ≤ 1000) (hc : c ≤ 999) : nI c = pI pp ↔ c + 1 = pp := by
  rw [pI_pos hp, nI_eq (by omega) (by omega)]; omega
def hmT (st B0 B1 B2 : Nat → Int32) (k : Nat) (x0 : HT) : Nat → HT
  | 0 => x0
  | i + 1 => if hmN st (hmT st B0 B1 B2 k x0 i).1 k (B1 i) = 0 then hmT st B0 B1 B2 k x0 i else ((psI st k 0 (B0 i) (hmN st (hmT st B0 B1 B2 k x0 i).1 k (B1 i)) (hmT st B0 B1 B2 k x0 i).1 (hmT st B0 B1 B2 k x0 i).2.1).1, (psI st k 0 (B0 i) (hmN st (hmT st B0 B1 B2 k x0 i).1 k (B1 i)) (hmT st B0 B1 B2 k x0 i).1 (hmT st B0 B1 B2 k x0 i).2.1).2, upd (hmT st B0 B1 B2 k x0 i).2.2.1 i (nI (hmN st (hmT st B0 B1 B2 k x0 i).1 k (B1 i))), B2 i)
theorem hmG_T {st B0 B1 B2 : Nat → Int32} {k bk t : Nat} {fl : Int32} {x0 : HT} (ht : t ≤ bk) (h1 : ∀ i, i < t → ¬ B2 i < fl) (h2 : t < bk → B2 t < fl) : ∀ {fu i : Nat}, i + fu = bk → i ≤ t → hmG st B0 B1 B2 k fl fu i (hmT st B0 B1 B2 k x0 i).1 (hmT st B0 B1 B2 k x0 i).2.1 (hmT st B0 B1 B2 k x0 i).2.2.1 (hmT st B0 B1 B2 k x0 i).2.2.2 = hmT st B0 B1 B2 k x0 t
  | 0, i, e, hi => by
    have : i = t := by omega
    subst this
    rfl
  | fu + 1, i, e, hi => by
    by_cases q : i = t
    · subst q
      exact if_pos (h2 (by omega))
    · have hit : i < t := by omega
      have ih := hmG_T (st := st) (B0 := B0) (B1 := B1) (k := k) (x0 := x0) ht h1 h2 (fu := fu) (i := i + 1) (by omega) (by omega)
      unfold hmG
      rw [if_neg (h1 i hit)]
      by_cases q2 : hmN st (hmT st B0 B1 B2 k x0 i).1 k (B1 i) = 0
      · rw [if_pos q2]
        rw [show hmT st B0 B1 B2 k x0 (i + 1) = hmT st B0 B1 B2 k x0 i from if_pos q2] at ih
        exact ih
      · rw [if_neg q2]
        rw [show hmT st B0 B1 B2 k x0 (i + 1) = _ from if_neg q2] at ih
        exact ih
def bdR (B0 B1 B2 : Nat → Int32) (bk : Nat) (bW bM bP : Nat → Int32) (s : Nat → Nat) : Prop :=
  (∀ i, i < bk → s i < bk ∧ B0 i = bW (s i) ∧ B1 i = bM (s i) ∧ B2 i = bP (s i)) ∧ (∀ i, i < bk → ∃ b, 1 ≤ b ∧ b ≤ 400 ∧ B1 i = nI b) ∧ (∀ i, i < bk → ∃ w, w < 10 ∧ B0 i = nI w) ∧ (∀ i, i < bk → ∃ c, c ≤ 999 ∧ B2 i = nI c) ∧ (∀ x, x < bk → ∃ i, i < bk ∧ s i = x) ∧ (∀ i j, i < j → j < bk → (B2 j).toNatClampNeg < (B2 i).toNatClampNeg ∨ (B2 i = B2 j ∧ s i < s j))
def bdT (B2 : Nat → Int32) (bk : Nat) (s : Nat → Nat) (pp b t : Nat) : Prop := t ≤ bk ∧ ∀ i, i < bk → (i < t ↔ (pp ≤ (B2 i).toNatClampNeg ∨ ((B2 i).toNatClampNeg + 1 = pp ∧ s i < b)))
theorem bdR_c {B0 B1 B2 bW bM bP : Nat → Int32} {bk : Nat} {s : Nat → Nat} (hR : bdR B0 B1 B2 bk bW bM bP s) {i : Nat} (hi : i < bk) : (B2 i).toNatClampNeg ≤ 999 := by
  obtain ⟨c, hc, e⟩ := hR.2.2.2.1 i hi
  rw [e, nI_clamp (by omega)]; exact hc
theorem bdT_0 {B0 B1 B2 bW bM bP : Nat → Int32} {bk : Nat} {s : Nat → Nat} (hR : bdR B0 B1 B2 bk bW bM bP s) : bdT B2 bk s 1000 0 0 := ⟨Nat.zero_le _, fun i hi => ⟨fun z => absurd z (by omega), fun z => by have := bdR_c hR hi; rcases z with z | z <;> omega⟩⟩
theorem bdT_skip {B0 B1 B2 bW bM bP : Nat → Int32} {bk pp b t : Nat} {s : Nat → Nat} (hR : bdR B0 B1 B2 bk bW bM bP s) (h : bdT B2 bk s pp b t) (hx : ¬ (bP b).toNatClampNeg + 1 = pp) : bdT B2 bk s pp (b + 1) t := by
  refine ⟨h.1, fun i hi => (h.2 i hi).trans ⟨fun z => z.imp id (fun q => ⟨q.1, by omega⟩), fun z => ?_⟩⟩
  rcases z with z | ⟨z1, z2⟩
  · exact Or.inl z
  · refine Or.inr ⟨z1, ?_⟩
    rcases Nat.lt_or_ge (s i) b with q | q
    · exact q
    · have e : s i = b := by omega
      have a := (hR.1 i hi).2.2.2
      rw [e] at a
      exact absurd (by rw [← a]; exact z1) hx
theorem bdT_hit {B0 B1 B2 bW bM bP : Nat → Int32} {bk pp b t : Nat} {s : Nat → Nat} (hR : bdR B0 B1 B2 bk bW bM bP s) (h : bdT B2 bk s pp b t) (hb : b < bk) (hp : (bP b).toNatClampNeg + 1 = pp) : t < bk ∧ s t = b ∧ bdT B2 bk s pp (b + 1) (t + 1) := by
  obtain ⟨i, hi, e⟩ := hR.2.2.2.2.1 b hb
  have e5 : (B2 i).toNatClampNeg + 1 = pp := by rw [(hR.1 i hi).2.2.2, e]; exact hp
  have h1 : ¬ i < t := fun z => by rcases (h.2 i hi).mp z with q | q <;> omega
  have h2 : ¬ t < i := fun z => by
    have : t < t := (h.2 t (by omega)).mpr (by
      rcases hR.2.2.2.2.2 t i z hi with q | ⟨q1, q2⟩
      · exact Or.inl (by omega)
      · exact Or.inr ⟨by rw [q1]; exact e5, by omega⟩)
    omega
  have hit : i = t := by omega
  subst hit
  refine ⟨hi, e, hi, fun j hj => ?_⟩
  rcases Nat.lt_or_ge j (i + 1) with q | q
  · refine ⟨fun _ => ?_, fun _ => q⟩
    by_cases q2 : j = i
    · subst q2; exact Or.inr ⟨e5, by omega⟩
    · rcases (h.2 j hj).mp (by omega) with z | z
      · exact Or.inl z
      · exact Or.inr ⟨z.1, by omega⟩
  · refine ⟨fun z => absurd z (by omega), fun z => ?_⟩
    rcases hR.2.2.2.2.2 i j (by omega) hj with y | ⟨y1, y2⟩
    · rcases z with z | z <;> omega
    · rcases z with z | z
      · rw [← y1] at z; omega
      · omega
theorem bdT_row {B0 B1 B2 bW bM bP : Nat → Int32} {bk pp t : Nat} {s : Nat → Nat} (hR : bdR B0 B1 B2 bk bW bM bP s) (hp : 0 < pp) (h : bdT B2 bk s pp bk t) : bdT B2 bk s (pp - 1) 0 t := by
  refine ⟨h.1, fun i hi => (h.2 i hi).trans ⟨fun z => Or.inl (by rcases z with z | z <;> omega), fun z => ?_⟩⟩
  have := (hR.1 i hi).1
  rcases z with z | z
  · rcases Nat.lt_or_ge (B2 i).toNatClampNeg pp with q | q
    · exact Or.inr ⟨by omega, this⟩
    · exact Or.inl q
  · omega
theorem bd_nI {B0 B1 B2 bW bM bP : Nat → Int32} {bk b : Nat} {s : Nat → Nat} (hR : bdR B0 B1 B2 bk bW bM bP s) (hb : b < bk) : ∃ c, c ≤ 999 ∧ bP b = nI c := by
  obtain ⟨i, hi, e⟩ := hR.2.2.2.2.1 b hb
  obtain ⟨c, hc, e2⟩ := hR.2.2.2.1 i hi
  exact ⟨c, hc, by rw [← e, ← (hR.1 i hi).2.2.2]; exact e2⟩
theorem bd_fin {B0 B1 B2 B3 bW bM bP st ho mv : Nat → Int32} {bk f k t : Nat} {s : Nat → Nat} (hR : bdR B0 B1 B2 bk bW bM bP s) (hf : f ≤ 99) (h : bdT B2 bk s f 0 t) : hmT st B0 B1 B2 k (ho, mv, B3, nI f) t = hmA st B0 B1 B2 B3 ho mv k bk (nI f) := by
  refine (hmG_T (x0 := (ho, mv, B3, nI f)) (fl := nI f) h.1 (fun i hi z => ?_) (fun hi => ?_) (fu := bk) (i := 0) (by omega) (Nat.zero_le _)).symm
  · have hib : i < bk := Nat.lt_of_lt_of_le hi h.1
    obtain ⟨c, hc, e⟩ := hR.2.2.2.1 i hib
    have q := (h.2 i hib).mp hi
    rw [e, nI_clamp (by omega)] at q
    rw [e, nI_ltI (by omega) (by omega)] at z
    omega
  · obtain ⟨c, hc, e⟩ := hR.2.2.2.1 t hi
    have q : ¬ t < t := Nat.lt_irrefl t
    rw [h.2 t hi, e, nI_clamp (by omega)] at q
    rw [e, nI_ltI (by omega) (by omega)]
    omega
theorem cnt_psI {st : Nat → Int32} {k wf wt : Nat} {to : Int32} (hto : to + 1 = nI wt) (hne : wf ≠ wt) (hf : wf < 11) (ht : wt < 11) : ∀ {n : Nat} {ho mv : Nat → Int32}, n ≤ cntP (hW st ho wf) k → cntP (hW st (psI st k wf to n ho mv).1 wf) k + n = cntP (hW st ho wf) k
  | 0, _, _, _ => rfl
  | n + 1, ho, mv, h => by
    have hpos : 0 < cntP (hW st ho wf) k := by omega
    have q := cnt_pass (fsP_lt hpos) (fsP_at hpos) hto hne hf ht wf hf
    rw [if_pos rfl, if_neg hne] at q
    have ih := cnt_psI (st := st) (k := k) hto hne hf ht (n := n) (ho := upd ho (fsP (hW st ho wf) k 0) to) (mv := upd mv (fsP (hW st ho wf) k 0) (mv (fsP (hW st ho wf) k 0) + 1)) (by omega)
    show cntP (hW st (psI st k wf to n (upd ho (fsP (hW st ho wf) k 0) to) (upd mv (fsP (hW st ho wf) k 0) (mv (fsP (hW st ho wf) k 0) + 1))).1 wf) k + (n + 1) = _
    omega
def payM (bW gt : Nat → Int32) (pr : Int32) (co : Nat → Int32) : Nat → (Nat → Int32)
  | 0 => co
  | i + 1 => upd (payM bW gt pr co i) (bW i).toNatClampNeg (payM bW gt pr co i (bW i).toNatClampNeg - gt i * pr)

theorem bd_inj {B0 B1 B2 bW bM bP : Nat → Int32} {bk i j : Nat} {s : Nat → Nat} (hR : bdR B0 B1 B2 bk bW bM bP s) (hi : i < bk) (hj : j < bk) (e : s i = s j) : i = j := by
  have ei : (B2 i).toNatClampNeg = (B2 j).toNatClampNeg := by rw [(hR.1 i hi).2.2.2, (hR.1 j hj).2.2.2, e]
  rcases Nat.lt_trichotomy i j with q | q | q
  · rcases hR.2.2.2.2.2 i j q hj with z | z <;> omega
  · exact q
  · rcases hR.2.2.2.2.2 j i q hi with z | z <;> omega
set_option maxHeartbeats 4000000 in
set_option maxRecDepth 100000 in
theorem k_X9_auction (l : Launch) (D : va_G) (cI cZ : ClassId) (h : Nat) (zcoins : Nat) (zdebt : Nat) (zfines : Nat) (zreading : Nat) (zruleYear : Nat) (zruleWhat : Nat) (zruleShare : Nat) (zstate : Nat) (zholder : Nat) (zyearOf : Nat) (zusedIn : Nat) (zprojectOf : Nat) (zwent : Nat) (zbidWorks : Nat) (zbidMany : Nat) (zbidPrice : Nat) (zisFalse : Nat) (zcutMany : Nat) (ztonnes : Nat) (zcosts : Nat) (zgiven : Nat) (zcutOff : Nat) (zgot : Nat) (zcutsOf : Nat) (now : Nat) (wk : Nat) (rk : Nat) (k : Nat) (ii : Int32) (bk : Nat) (ac : Int32) (pj : Nat) (sm : Int32) (mg : Int32) (CO : Nat → Int32) (RY : Nat → Int32) (RS : Nat → Int32) (ST : Nat → Int32) (HO : Nat → Int32) (WE : Nat → Int32) (bW : Nat → Int32) (bM : Nat → Int32) (bP : Nat → Int32) (GT : Nat → Int32) (B0 : Nat → Int32) (B1 : Nat → Int32) (B2 : Nat → Int32) (B3 : Nat → Int32) (s : Nat → Nat) (f : Nat) (hk4 : k ≤ 4000) (hk : rk ≤ 30) (hbk : bk ≤ 40) (hf : f ≤ 99) (hfl : rAt 30 (pS RS 1 100) (inF RY (nI now) rk) = nI f) (hR : bdR B0 B1 B2 bk bW bM bP s) (hB3 : ∀ i, i < bk → B3 i = 0) : fx_CI l D cI cZ yX9_auction wsX9_auction ({ frames := 2, cells := 0, slots := 0, locals := 47 }) [.ref h] [(h, .inr (9, [.int (nI now), .int (nI wk), .ref zcoins, .ref zdebt, .ref zfines, .ref zreading, .int (nI rk), .ref zruleYear, .ref zruleWhat, .ref zruleShare, .int (nI k), .ref zstate, .ref zholder, .ref zyearOf, .ref zusedIn, .ref zprojectOf, .ref zwent, .int ii, .int (nI bk), .ref zbidWorks, .ref zbidMany, .ref zbidPrice, .int ac, .int (nI pj), .ref zisFalse, .ref zcutMany, .ref ztonnes, .ref zcosts, .ref zgiven, .ref zcutOff, .ref zgot, .ref zcutsOf, .int sm, .int mg])), (zcoins, .inl (cI, 10, .inl CO)), (zruleYear, .inl (cI, 30, .inl RY)), (zruleShare, .inl (cI, 30, .inl RS)), (zstate, .inl (cI, 4000, .inl ST)), (zholder, .inl (cI, 4000, .inl HO)), (zwent, .inl (cI, 4000, .inl WE)), (zbidWorks, .inl (cI, 40, .inl bW)), (zbidMany, .inl (cI, 40, .inl bM)), (zbidPrice, .inl (cI, 40, .inl bP)), (zgot, .inl (cI, 40, .inl GT))] (fun (u : (Nat → Int32) × (Nat → Int32) × (Nat → Int32) × (Nat → Int32) × (Nat) × (Int32)) => [(h, .inr (9, [.int (nI now), .int (nI wk), .ref zcoins, .ref zdebt, .ref zfines, .ref zreading, .int (nI rk), .ref zruleYear, .ref zruleWhat, .ref zruleShare, .int (nI k), .ref zstate, .ref zholder, .ref zyearOf, .ref zusedIn, .ref zprojectOf, .ref zwent, .int ii, .int (nI u.2.2.2.2.1), .ref zbidWorks, .ref zbidMany, .ref zbidPrice, .int u.2.2.2.2.2, .int (nI pj), .ref zisFalse, .ref zcutMany, .ref ztonnes, .ref zcosts, .ref zgiven, .ref zcutOff, .ref zgot, .ref zcutsOf, .int sm, .int mg])), (zcoins, .inl (cI, 10, .inl u.1)), (zruleYear, .inl (cI, 30, .inl RY)), (zruleShare, .inl (cI, 30, .inl RS)), (zstate, .inl (cI, 4000, .inl ST)), (zholder, .inl (cI, 4000, .inl u.2.1)), (zwent, .inl (cI, 4000, .inl u.2.2.1)), (zbidWorks, .inl (cI, 40, .inl bW)), (zbidMany, .inl (cI, 40, .inl bM)), (zbidPrice, .inl (cI, 40, .inl bP)), (zgot, .inl (cI, 40, .inl u.2.2.2.1))]) (fun (r : Int32) (u : (Nat → Int32) × (Nat → Int32) × (Nat → Int32) × (Nat → Int32) × (Nat) × (Int32)) => (¬ cntP (hW ST HO 0) k = 0 ∧ r = hmP ST k (nI f) (hmA ST B0 B1 B2 B3 HO WE k bk (nI f)) ∧ u.2.1 = (hmA ST B0 B1 B2 B3 HO WE k bk (nI f)).1 ∧ u.2.2.1 = (hmA ST B0 B1 B2 B3 HO WE k bk (nI f)).2.1 ∧ u.2.2.2.2.1 = 0 ∧ (∀ i, i < bk → u.2.2.2.1 (s i) = (hmA ST B0 B1 B2 B3 HO WE k bk (nI f)).2.2.1 i) ∧ u.1 = payM bW u.2.2.2.1 r CO bk ∧ u.2.2.2.2.2 = acI u.2.2.2.1 r ac bk) ∨ (cntP (hW ST HO 0) k = 0 ∧ r = -1 ∧ u.1 = CO ∧ u.2.1 = HO ∧ u.2.2.1 = WE ∧ u.2.2.2.1 = GT ∧ u.2.2.2.2.1 = bk ∧ u.2.2.2.2.2 = ac)) := by
  refine fx_CI.of (ws' := (wsX9_auction).tail) cX9_auction 6 (by decide) rfl (Nat.le_of_ble_eq_true rfl) ?_
  intro zp ze zs zm za zb zt zc zA ls zQ hQ hC hr hlk hA hH hl
  have zx := hC.1.1
  have zy := hC.1.2.1
  have hl : lv_has ls 6 [(0, .ref h)] := hl
  have hcl0 := cntP_le (hW ST HO 0) k
  refine lv_aload_n zx zy dX9_auction_0 rfl (lv_at hl 0 rfl) ?_
  refine lv_iconst (v := (-1)) zx zy dX9_auction_1 (by decide) ?_
  refine fx_cVi (n := 1) (As := [.int (-1)]) (b := h) (rest := []) (fun (u : Unit) => [(h, .inr (9, [.int (nI now), .int (nI wk), .ref zcoins, .ref zdebt, .ref zfines, .ref zreading, .int (nI rk), .ref zruleYear, .ref zruleWhat, .ref zruleShare, .int (nI k), .ref zstate, .ref zholder, .ref zyearOf, .ref zusedIn, .ref zprojectOf, .ref zwent, .int ii, .int (nI bk), .ref zbidWorks, .ref zbidMany, .ref zbidPrice, .int ac, .int (nI pj), .ref zisFalse, .ref zcutMany, .ref ztonnes, .ref zcosts, .ref zgiven, .ref zcutOff, .ref zgot, .ref zcutsOf, .int sm, .int mg])), (zcoins, .inl (cI, 10, .inl CO)), (zruleYear, .inl (cI, 30, .inl RY)), (zruleShare, .inl (cI, 30, .inl RS)), (zstate, .inl (cI, 4000, .inl ST)), (zholder, .inl (cI, 4000, .inl HO)), (zwent, .inl (cI, 4000, .inl WE)), (zbidWorks, .inl (cI, 40, .inl bW)), (zbidMany, .inl (cI, 40, .inl bM)), (zbidPrice, .inl (cI, 40, .inl bP)), (zgot, .inl (cI, 40, .inl GT))]) hC hA hH (k_X9_holds l D cI cZ h zcoins zdebt zfines zreading zruleYear zruleWhat zruleShare zstate zholder zyearOf zusedIn zprojectOf zwent zbidWorks zbidMany zbidPrice zisFalse zcutMany ztonnes zcosts zgiven zcutOff zgot zcutsOf now wk rk k ii bk ac pj sm mg ST HO (-1) 0 (by decide) (by omega) (by first | assumption | omega)) [0, 4, 5] [1, 2, 3, 6, 7, 8, 9, 10] [8, 0, 1, 2, 9, 10, 3, 4, 5, 6, 7] [(zcoins, .inl (cI, 10, .inl CO)), (zruleYear, .inl (cI, 30, .inl RY)), (zruleShare, .inl (cI, 30, .inl RS)), (zwent, .inl (cI, 4000, .inl WE)), (zbidWorks, .inl (cI, 40, .inl bW)), (zbidMany, .inl (cI, 40, .inl bM)), (zbidPrice, .inl (cI, 40, .inl bP)), (zgot, .inl (cI, 40, .inl GT))] rfl rfl (by decide) (by decide) (fun _ => rfl) rfl gX9_auction_X9_holds (by decide +kernel) ⟨Nat.le_of_ble_eq_true rfl, Nat.le_of_ble_eq_true rfl⟩ 0 rfl rfl rfl rfl rfl hl.1 (Nat.le_of_ble_eq_true rfl) ⟨Nat.le_of_ble_eq_true rfl, Nat.le_of_ble_eq_true rfl⟩ dX9_auction_2 (fun r1 u H locs hw2 hH => ?_)
  obtain rfl : r1 = nI (cntP (hW ST HO 0) k) := hw2
  have hH := (hH : fx_H zA zs.heap H locs D [(h, .inr (9, [.int (nI now), .int (nI wk), .ref zcoins, .ref zdebt, .ref zfines, .ref zreading, .int (nI rk), .ref zruleYear, .ref zruleWhat, .ref zruleShare, .int (nI k), .ref zstate, .ref zholder, .ref zyearOf, .ref zusedIn, .ref zprojectOf, .ref zwent, .int ii, .int (nI bk), .ref zbidWorks, .ref zbidMany, .ref zbidPrice, .int ac, .int (nI pj), .ref zisFalse, .ref zcutMany, .ref ztonnes, .ref zcosts, .ref zgiven, .ref zcutOff, .ref zgot, .ref zcutsOf, .int sm, .int mg])), (zcoins, .inl (cI, 10, .inl CO)), (zruleYear, .inl (cI, 30, .inl RY)), (zruleShare, .inl (cI, 30, .inl RS)), (zstate, .inl (cI, 4000, .inl ST)), (zholder, .inl (cI, 4000, .inl HO)), (zwent, .inl (cI, 4000, .inl WE)), (zbidWorks, .inl (cI, 40, .inl bW)), (zbidMany, .inl (cI, 40, .inl bM)), (zbidPrice, .inl (cI, 40, .inl bP)), (zgot, .inl (cI, 40, .inl GT))])
  refine lv_topi (fun v2 ev2 => ?_)
  obtain rfl : v2 = nI (cntP (hW ST HO 0) k) := ev2.trans (rfl)
  refine lv_istore_n (lv' := [(1, .int (nI (cntP (hW ST HO 0) k))), (0, .ref h)]) zx zy dX9_auction_5 rfl hl (by decide) rfl (fun ls hl => ?_)
  refine lv_iload_n zx zy dX9_auction_6 rfl (lv_at hl 0 rfl) ?_
  refine lv_if_ne (tgt := 12) zx zy dX9_auction_7 (by decide) (fun c7 => ?_) (fun c7 => ?_)
  · skip
    have hc0 : ¬ cntP (hW ST HO 0) k = 0 := fun e => c7 (by rw [e]; rfl)
    refine lv_aload_n zx zy dX9_auction_12 rfl (lv_at hl 1 rfl) ?_
    refine lv_aload_n zx zy dX9_auction_13 rfl (lv_at hl 1 rfl) ?_
    refine fx_get (C := RX9) (T := TX9) (N := 34) hC (fun _ h => List.mem_cons_of_mem _ (List.mem_append_right _ h)) hH 0 rfl rfl 0 (by decide) (by decide +kernel) rfl dX9_auction_14 ?_
    refine lv_iconst (v := 1) zx zy dX9_auction_17 (by decide) ?_
    refine lv_bipush (v := 100) zx zy dX9_auction_18 (by decide) ?_
    refine fx_cVi (n := 3) (As := [.int (nI now), .int 1, .int 100]) (b := h) (rest := []) (fun (u : Unit) => [(h, .inr (9, [.int (nI now), .int (nI wk), .ref zcoins, .ref zdebt, .ref zfines, .ref zreading, .int (nI rk), .ref zruleYear, .ref zruleWhat, .ref zruleShare, .int (nI k), .ref zstate, .ref zholder, .ref zyearOf, .ref zusedIn, .ref zprojectOf, .ref zwent, .int ii, .int (nI bk), .ref zbidWorks, .ref zbidMany, .ref zbidPrice, .int ac, .int (nI pj), .ref zisFalse, .ref zcutMany, .ref ztonnes, .ref zcosts, .ref zgiven, .ref zcutOff, .ref zgot, .ref zcutsOf, .int sm, .int mg])), (zcoins, .inl (cI, 10, .inl CO)), (zruleYear, .inl (cI, 30, .inl RY)), (zruleShare, .inl (cI, 30, .inl RS)), (zstate, .inl (cI, 4000, .inl ST)), (zholder, .inl (cI, 4000, .inl HO)), (zwent, .inl (cI, 4000, .inl WE)), (zbidWorks, .inl (cI, 40, .inl bW)), (zbidMany, .inl (cI, 40, .inl bM)), (zbidPrice, .inl (cI, 40, .inl bP)), (zgot, .inl (cI, 40, .inl GT))]) hC hA hH (k_X9_partOf l D cI cZ h zcoins zdebt zfines zreading zruleYear zruleWhat zruleShare zstate zholder zyearOf zusedIn zprojectOf zwent zbidWorks zbidMany zbidPrice zisFalse zcutMany ztonnes zcosts zgiven zcutOff zgot zcutsOf now wk rk k ii bk ac pj sm mg RY RS (nI now) 1 100 (by first | assumption | omega) (by decide) (by decide)) [0, 2, 3] [1, 4, 5, 6, 7, 8, 9, 10] [8, 0, 9, 10, 1, 2, 3, 4, 5, 6, 7] [(zcoins, .inl (cI, 10, .inl CO)), (zstate, .inl (cI, 4000, .inl ST)), (zholder, .inl (cI, 4000, .inl HO)), (zwent, .inl (cI, 4000, .inl WE)), (zbidWorks, .inl (cI, 40, .inl bW)), (zbidMany, .inl (cI, 40, .inl bM)), (zbidPrice, .inl (cI, 40, .inl bP)), (zgot, .inl (cI, 40, .inl GT))] rfl rfl (by decide) (by decide) (fun _ => rfl) rfl gX9_auction_X9_partOf (by decide +kernel) ⟨Nat.le_of_ble_eq_true rfl, Nat.le_of_ble_eq_true rfl⟩ 0 rfl rfl rfl rfl rfl hl.1 (Nat.le_of_ble_eq_true rfl) ⟨Nat.le_of_ble_eq_true rfl, Nat.le_of_ble_eq_true rfl⟩ dX9_auction_20 (fun r3 u H locs hw20 hH => ?_)
    obtain rfl : r3 = rAt 30 (pS RS 1 100) (inF RY (nI now) rk) := hw20
    have hH := (hH : fx_H zA zs.heap H locs D [(h, .inr (9, [.int (nI now), .int (nI wk), .ref zcoins, .ref zdebt, .ref zfines, .ref zreading, .int (nI rk), .ref zruleYear, .ref zruleWhat, .ref zruleShare, .int (nI k), .ref zstate, .ref zholder, .ref zyearOf, .ref zusedIn, .ref zprojectOf, .ref zwent, .int ii, .int (nI bk), .ref zbidWorks, .ref zbidMany, .ref zbidPrice, .int ac, .int (nI pj), .ref zisFalse, .ref zcutMany, .ref ztonnes, .ref zcosts, .ref zgiven, .ref zcutOff, .ref zgot, .ref zcutsOf, .int sm, .int mg])), (zcoins, .inl (cI, 10, .inl CO)), (zruleYear, .inl (cI, 30, .inl RY)), (zruleShare, .inl (cI, 30, .inl RS)), (zstate, .inl (cI, 4000, .inl ST)), (zholder, .inl (cI, 4000, .inl HO)), (zwent, .inl (cI, 4000, .inl WE)), (zbidWorks, .inl (cI, 40, .inl bW)), (zbidMany, .inl (cI, 40, .inl bM)), (zbidPrice, .inl (cI, 40, .inl bP)), (zgot, .inl (cI, 40, .inl GT))])
    refine lv_topi (fun v4 ev4 => ?_)
    obtain rfl : v4 = nI f := ev4.trans (hfl)
    refine lv_istore_n (lv' := [(2, .int (nI f)), (1, .int (nI (cntP (hW ST HO 0) k))), (0, .ref h)]) zx zy dX9_auction_23 rfl hl (by decide) rfl (fun ls hl => ?_)
    refine lv_iload_n zx zy dX9_auction_24 rfl (lv_at hl 0 rfl) ?_
    refine lv_istore_n (lv' := [(3, .int (nI f)), (2, .int (nI f)), (1, .int (nI (cntP (hW ST HO 0) k))), (0, .ref h)]) zx zy dX9_auction_25 rfl hl (by decide) rfl (fun ls hl => ?_)
    refine lv_iconst (v := 0) zx zy dX9_auction_26 (by decide) ?_
    refine lv_topi (fun v5 ev5 => ?_)
    obtain rfl : v5 = nI 0 := ev5.trans (rfl)
    refine lv_istore (lv' := [(4, .int (nI 0)), (3, .int (nI f)), (2, .int (nI f)), (1, .int (nI (cntP (hW ST HO 0) k))), (0, .ref h)]) zx zy dX9_auction_27 hl (by decide) rfl (fun ls hl => ?_)
    have L29 : ∀ (fu : Nat) (i : Nat) (hi : i ≤ bk) (H : Heap) (locs : List Loc) (ls : Array Slot), bk - i < fu → fx_H zA zs.heap H locs D [(h, .inr (9, [.int (nI now), .int (nI wk), .ref zcoins, .ref zdebt, .ref zfines, .ref zreading, .int (nI rk), .ref zruleYear, .ref zruleWhat, .ref zruleShare, .int (nI k), .ref zstate, .ref zholder, .ref zyearOf, .ref zusedIn, .ref zprojectOf, .ref zwent, .int ii, .int (nI bk), .ref zbidWorks, .ref zbidMany, .ref zbidPrice, .int ac, .int (nI pj), .ref zisFalse, .ref zcutMany, .ref ztonnes, .ref zcosts, .ref zgiven, .ref zcutOff, .ref zgot, .ref zcutsOf, .int sm, .int mg])), (zcoins, .inl (cI, 10, .inl CO)), (zruleYear, .inl (cI, 30, .inl RY)), (zruleShare, .inl (cI, 30, .inl RS)), (zstate, .inl (cI, 4000, .inl ST)), (zholder, .inl (cI, 4000, .inl HO)), (zwent, .inl (cI, 4000, .inl WE)), (zbidWorks, .inl (cI, 40, .inl bW)), (zbidMany, .inl (cI, 40, .inl bM)), (zbidPrice, .inl (cI, 40, .inl bP)), (zgot, .inl (cI, 40, .inl (preF GT (fun _ => 0) i)))] → lv_has ls 6 [(0, .ref h), (1, .int (nI (cntP (hW ST HO 0) k))), (2, .int (nI f)), (3, .int (nI f)), (4, .int (nI i))] → W zp l ze ({ frames := 2, cells := 0, slots := 0, locals := 47 }) zs zm za zb zt zc H locs (0) (0) zQ (F0 zm 29 ls []) := by
      intro fu
      induction fu with
      | zero => intro i hi H locs ls hfu; exact absurd hfu (Nat.not_lt_zero _)
      | succ fu ih29 =>
        intro i hi H locs ls hfu29 hH hl
        refine lv_iload zx zy dX9_auction_29 (lv_at hl 4 rfl) ?_
        refine lv_aload_n zx zy dX9_auction_31 rfl (lv_at hl 0 rfl) ?_
        refine fx_get (C := RX9) (T := TX9) (N := 34) hC (fun _ h => List.mem_cons_of_mem _ (List.mem_append_right _ h)) hH 0 rfl rfl 18 (by decide) (by decide +kernel) rfl dX9_auction_32 ?_
        refine lv_icmp_ge (tgt := 52) zx zy dX9_auction_35 (by decide) (fun c35 => ?_) (fun c35 => ?_)
        · skip
          have hib : i = bk := Nat.le_antisymm hi (fx_le_of c35 (by omega) (by omega))
          rw [hib] at hH
          refine lv_sipush (v := 999) zx zy dX9_auction_52 (by decide) ?_
          refine lv_topi (fun v6 ev6 => ?_)
          obtain rfl : v6 = pI 1000 := ev6.trans (by decide)
          refine lv_istore (lv' := [(4, .int (pI 1000)), (0, .ref h), (1, .int (nI (cntP (hW ST HO 0) k))), (2, .int (nI f)), (3, .int (nI f))]) zx zy dX9_auction_55 hl (by decide) rfl (fun ls hl => ?_)
          have L57 : ∀ (fu : Nat) (pp : Nat) (t : Nat) (l4 : Nat) (pr : Int32) (ho : Nat → Int32) (mv : Nat → Int32) (gt : Nat → Int32) (hpp : pp ≤ 1000) (hpf : f ≤ pp) (hT : bdT B2 bk s pp 0 t) (hx : ho = (hmT ST B0 B1 B2 k (HO, WE, B3, nI f) t).1 ∧ mv = (hmT ST B0 B1 B2 k (HO, WE, B3, nI f) t).2.1) (hlc : l4 = cntP (hW ST ho 0) k) (hgt : ∀ i, i < bk → gt (s i) = (hmT ST B0 B1 B2 k (HO, WE, B3, nI f) t).2.2.1 i) (hpr : pr = hmP ST k (nI f) (hmT ST B0 B1 B2 k (HO, WE, B3, nI f) t)) (H : Heap) (locs : List Loc) (ls : Array Slot), pp < fu → fx_H zA zs.heap H locs D [(h, .inr (9, [.int (nI now), .int (nI wk), .ref zcoins, .ref zdebt, .ref zfines, .ref zreading, .int (nI rk), .ref zruleYear, .ref zruleWhat, .ref zruleShare, .int (nI k), .ref zstate, .ref zholder, .ref zyearOf, .ref zusedIn, .ref zprojectOf, .ref zwent, .int ii, .int (nI bk), .ref zbidWorks, .ref zbidMany, .ref zbidPrice, .int ac, .int (nI pj), .ref zisFalse, .ref zcutMany, .ref ztonnes, .ref zcosts, .ref zgiven, .ref zcutOff, .ref zgot, .ref zcutsOf, .int sm, .int mg])), (zcoins, .inl (cI, 10, .inl CO)), (zruleYear, .inl (cI, 30, .inl RY)), (zruleShare, .inl (cI, 30, .inl RS)), (zstate, .inl (cI, 4000, .inl ST)), (zholder, .inl (cI, 4000, .inl ho)), (zwent, .inl (cI, 4000, .inl mv)), (zbidWorks, .inl (cI, 40, .inl bW)), (zbidMany, .inl (cI, 40, .inl bM)), (zbidPrice, .inl (cI, 40, .inl bP)), (zgot, .inl (cI, 40, .inl gt))] → lv_has ls 6 [(0, .ref h), (1, .int (nI l4)), (2, .int (nI f)), (3, .int pr), (4, .int (pI pp))] → W zp l ze ({ frames := 2, cells := 0, slots := 0, locals := 47 }) zs zm za zb zt zc H locs (0) (0) zQ (F0 zm 57 ls []) := by
            intro fu
            induction fu with
            | zero => intro pp t l4 pr ho mv gt hpp hpf hT hx hlc hgt hpr H locs ls hfu; exact absurd hfu (Nat.not_lt_zero _)
            | succ fu ih57 =>
              intro pp t l4 pr ho mv gt hpp hpf hT hx hlc hgt hpr H locs ls hfu57 hH hl
              refine lv_iload zx zy dX9_auction_57 (lv_at hl 4 rfl) ?_
              refine lv_iload_n zx zy dX9_auction_59 rfl (lv_at hl 2 rfl) ?_
              refine lv_icmp_lt (tgt := 171) zx zy dX9_auction_60 (by decide) (fun c60 => ?_) (fun c60 => ?_)
              · skip
                have hpe : pp = f := Nat.le_antisymm ((pI_lt hpp hf).mp c60) hpf
                have hXe : hmT ST B0 B1 B2 k (HO, WE, B3, nI f) t = hmA ST B0 B1 B2 B3 HO WE k bk (nI f) := bd_fin hR hf (by rw [← hpe]; exact hT)
                refine lv_iconst (v := 0) zx zy dX9_auction_171 (by decide) ?_
                refine lv_topi (fun v7 ev7 => ?_)
                obtain rfl : v7 = nI 0 := ev7.trans (rfl)
                refine lv_istore (lv' := [(4, .int (nI 0)), (0, .ref h), (1, .int (nI l4)), (2, .int (nI f)), (3, .int pr)]) zx zy dX9_auction_172 hl (by decide) rfl (fun ls hl => ?_)
                have L174 : ∀ (fu : Nat) (i : Nat) (co : Nat → Int32) (aa : Int32) (hi : i ≤ bk) (hco : co = payM bW gt pr CO i) (haa : aa = acI gt pr ac i) (H : Heap) (locs : List Loc) (ls : Array Slot), bk - i < fu → fx_H zA zs.heap H locs D [(h, .inr (9, [.int (nI now), .int (nI wk), .ref zcoins, .ref zdebt, .ref zfines, .ref zreading, .int (nI rk), .ref zruleYear, .ref zruleWhat, .ref zruleShare, .int (nI k), .ref zstate, .ref zholder, .ref zyearOf, .ref zusedIn, .ref zprojectOf, .ref zwent, .int ii, .int (nI bk), .ref zbidWorks, .ref zbidMany, .ref zbidPrice, .int aa, .int (nI pj), .ref zisFalse, .ref zcutMany, .ref ztonnes, .ref zcosts, .ref zgiven, .ref zcutOff, .ref zgot, .ref zcutsOf, .int sm, .int mg])), (zcoins, .inl (cI, 10, .inl co)), (zruleYear, .inl (cI, 30, .inl RY)), (zruleShare, .inl (cI, 30, .inl RS)), (zstate, .inl (cI, 4000, .inl ST)), (zholder, .inl (cI, 4000, .inl ho)), (zwent, .inl (cI, 4000, .inl mv)), (zbidWorks, .inl (cI, 40, .inl bW)), (zbidMany, .inl (cI, 40, .inl bM)), (zbidPrice, .inl (cI, 40, .inl bP)), (zgot, .inl (cI, 40, .inl gt))] → lv_has ls 6 [(0, .ref h), (1, .int (nI l4)), (2, .int (nI f)), (3, .int pr), (4, .int (nI i))] → W zp l ze ({ frames := 2, cells := 0, slots := 0, locals := 47 }) zs zm za zb zt zc H locs (0) (0) zQ (F0 zm 174 ls []) := by
                  intro fu
                  induction fu with
                  | zero => intro i co aa hi hco haa H locs ls hfu; exact absurd hfu (Nat.not_lt_zero _)
                  | succ fu ih174 =>
                    intro i co aa hi hco haa H locs ls hfu174 hH hl
                    refine lv_iload zx zy dX9_auction_174 (lv_at hl 4 rfl) ?_
                    refine lv_aload_n zx zy dX9_auction_176 rfl (lv_at hl 0 rfl) ?_
                    refine fx_get (C := RX9) (T := TX9) (N := 34) hC (fun _ h => List.mem_cons_of_mem _ (List.mem_append_right _ h)) hH 0 rfl rfl 18 (by decide) (by decide +kernel) rfl dX9_auction_177 ?_
                    refine lv_icmp_ge (tgt := 231) zx zy dX9_auction_180 (by decide) (fun c180 => ?_) (fun c180 => ?_)
                    · skip
                      have hibk : i = bk := Nat.le_antisymm hi (fx_le_of c180 (by omega) (by omega))
                      refine lv_aload_n zx zy dX9_auction_231 rfl (lv_at hl 0 rfl) ?_
                      refine lv_iconst (v := 0) zx zy dX9_auction_232 (by decide) ?_
                      refine lv_topi (fun v8 ev8 => ?_)
                      obtain rfl : v8 = nI 0 := ev8.trans (rfl)
                      refine fx_put (C := RX9) (T := TX9) (N := 34) (ty := .int) (ws2 := [(h, .inr (9, [.int (nI now), .int (nI wk), .ref zcoins, .ref zdebt, .ref zfines, .ref zreading, .int (nI rk), .ref zruleYear, .ref zruleWhat, .ref zruleShare, .int (nI k), .ref zstate, .ref zholder, .ref zyearOf, .ref zusedIn, .ref zprojectOf, .ref zwent, .int ii, .int (nI 0), .ref zbidWorks, .ref zbidMany, .ref zbidPrice, .int aa, .int (nI pj), .ref zisFalse, .ref zcutMany, .ref ztonnes, .ref zcosts, .ref zgiven, .ref zcutOff, .ref zgot, .ref zcutsOf, .int sm, .int mg])), (zcoins, .inl (cI, 10, .inl co)), (zruleYear, .inl (cI, 30, .inl RY)), (zruleShare, .inl (cI, 30, .inl RS)), (zstate, .inl (cI, 4000, .inl ST)), (zholder, .inl (cI, 4000, .inl ho)), (zwent, .inl (cI, 4000, .inl mv)), (zbidWorks, .inl (cI, 40, .inl bW)), (zbidMany, .inl (cI, 40, .inl bM)), (zbidPrice, .inl (cI, 40, .inl bP)), (zgot, .inl (cI, 40, .inl gt))]) hC (fun _ h => List.mem_cons_of_mem _ (List.mem_append_right _ h)) tyX9_ok nmX9 hH 0 rfl rfl 18 (by decide) (by decide +kernel) rfl rfl rfl rfl (Nat.le_of_ble_eq_true rfl) rfl dX9_auction_233 (fun H locs hH => ?_)
                      refine lv_iload_n zx zy dX9_auction_236 rfl (lv_at hl 3 rfl) ?_
                      exact fx_iret (v := pr) hQ hC hr hlk hH dX9_auction_237 rfl (Nat.le_of_ble_eq_true rfl) (Nat.le_of_ble_eq_true rfl) ((co, ho, mv, gt, 0, aa)) rfl (Or.inl ⟨hc0, by rw [← hXe]; exact hpr, by rw [← hXe]; exact hx.1, by rw [← hXe]; exact hx.2, rfl, by rw [← hXe]; exact hgt, by rw [hco, hibk], by rw [haa, hibk]⟩)
                    · skip
                      have hlt2 : i < bk := fx_lt_of c180 (by omega)
                      obtain ⟨iq, hiq, eiq⟩ := hR.2.2.2.2.1 i hlt2
                      obtain ⟨ww, hww, eww0⟩ := hR.2.2.1 iq hiq
                      have eww : bW i = nI ww := by rw [← eiq, ← (hR.1 iq hiq).2.1]; exact eww0
                      refine lv_aload_n zx zy dX9_auction_183 rfl (lv_at hl 0 rfl) ?_
                      refine fx_get (C := RX9) (T := TX9) (N := 34) hC (fun _ h => List.mem_cons_of_mem _ (List.mem_append_right _ h)) hH 0 rfl rfl 2 (by decide) (by decide +kernel) rfl dX9_auction_184 ?_
                      refine lv_aload_n zx zy dX9_auction_187 rfl (lv_at hl 0 rfl) ?_
                      refine fx_get (C := RX9) (T := TX9) (N := 34) hC (fun _ h => List.mem_cons_of_mem _ (List.mem_append_right _ h)) hH 0 rfl rfl 19 (by decide) (by decide +kernel) rfl dX9_auction_188 ?_
                      refine lv_iload zx zy dX9_auction_191 (lv_at hl 4 rfl) ?_
                      refine fx_ild hC hH 7 rfl (vp_in_nI (by omega) (by omega)) dX9_auction_193 ?_
                      refine lv_topi (fun v9 ev9 => ?_)
                      obtain rfl : v9 = nI ww := ev9.trans ((congrArg bW (nI_clamp (by omega))).trans eww)
                      refine lv_dup2_11 zx zy dX9_auction_194 rfl rfl ?_
                      refine fx_ild hC hH 1 rfl (vp_in_nI (by omega) (by omega)) dX9_auction_195 ?_
                      refine lv_topi (fun v10 ev10 => ?_)
                      obtain rfl : v10 = co ww := ev10.trans (congrArg co (nI_clamp (by omega)))
                      refine lv_aload_n zx zy dX9_auction_196 rfl (lv_at hl 0 rfl) ?_
                      refine fx_get (C := RX9) (T := TX9) (N := 34) hC (fun _ h => List.mem_cons_of_mem _ (List.mem_append_right _ h)) hH 0 rfl rfl 30 (by decide) (by decide +kernel) rfl dX9_auction_197 ?_
                      refine lv_iload zx zy dX9_auction_200 (lv_at hl 4 rfl) ?_
                      refine fx_ild hC hH 10 rfl (vp_in_nI (by omega) (by omega)) dX9_auction_202 ?_
                      refine lv_topi (fun v11 ev11 => ?_)
                      obtain rfl : v11 = gt i := ev11.trans (congrArg gt (nI_clamp (by omega)))
                      refine lv_iload_n zx zy dX9_auction_203 rfl (lv_at hl 3 rfl) ?_
                      refine lv_imul zx zy dX9_auction_204 ?_
                      refine lv_isub zx zy dX9_auction_205 ?_
                      refine fx_ist (ws2 := [(h, .inr (9, [.int (nI now), .int (nI wk), .ref zcoins, .ref zdebt, .ref zfines, .ref zreading, .int (nI rk), .ref zruleYear, .ref zruleWhat, .ref zruleShare, .int (nI k), .ref zstate, .ref zholder, .ref zyearOf, .ref zusedIn, .ref zprojectOf, .ref zwent, .int ii, .int (nI bk), .ref zbidWorks, .ref zbidMany, .ref zbidPrice, .int aa, .int (nI pj), .ref zisFalse, .ref zcutMany, .ref ztonnes, .ref zcosts, .ref zgiven, .ref zcutOff, .ref zgot, .ref zcutsOf, .int sm, .int mg])), (zcoins, .inl (cI, 10, .inl (upd co (nI ww).toNatClampNeg ((co ww) - ((gt i) * pr))))), (zruleYear, .inl (cI, 30, .inl RY)), (zruleShare, .inl (cI, 30, .inl RS)), (zstate, .inl (cI, 4000, .inl ST)), (zholder, .inl (cI, 4000, .inl ho)), (zwent, .inl (cI, 4000, .inl mv)), (zbidWorks, .inl (cI, 40, .inl bW)), (zbidMany, .inl (cI, 40, .inl bM)), (zbidPrice, .inl (cI, 40, .inl bP)), (zgot, .inl (cI, 40, .inl gt))]) hC hH 1 rfl (vp_in_nI (by omega) (by omega)) rfl dX9_auction_206 (fun H locs hH => ?_)
                      rw [show (upd co (nI ww).toNatClampNeg ((co ww) - ((gt i) * pr)) : Nat → Int32) = upd co ww ((co ww) - ((gt i) * pr)) from (by rw [nI_clamp (by omega)])] at hH
                      refine lv_aload_n zx zy dX9_auction_207 rfl (lv_at hl 0 rfl) ?_
                      refine lv_dup zx zy dX9_auction_208 rfl ?_
                      refine fx_get (C := RX9) (T := TX9) (N := 34) hC (fun _ h => List.mem_cons_of_mem _ (List.mem_append_right _ h)) hH 0 rfl rfl 22 (by decide) (by decide +kernel) rfl dX9_auction_209 ?_
                      refine lv_aload_n zx zy dX9_auction_212 rfl (lv_at hl 0 rfl) ?_
                      refine fx_get (C := RX9) (T := TX9) (N := 34) hC (fun _ h => List.mem_cons_of_mem _ (List.mem_append_right _ h)) hH 0 rfl rfl 30 (by decide) (by decide +kernel) rfl dX9_auction_213 ?_
                      refine lv_iload zx zy dX9_auction_216 (lv_at hl 4 rfl) ?_
                      refine fx_ild hC hH 10 rfl (vp_in_nI (by omega) (by omega)) dX9_auction_218 ?_
                      refine lv_topi (fun v12 ev12 => ?_)
                      obtain rfl : v12 = gt i := ev12.trans (congrArg gt (nI_clamp (by omega)))
                      refine lv_iload_n zx zy dX9_auction_219 rfl (lv_at hl 3 rfl) ?_
                      refine lv_imul zx zy dX9_auction_220 ?_
                      refine lv_iadd zx zy dX9_auction_221 ?_
                      refine fx_put (C := RX9) (T := TX9) (N := 34) (ty := .int) (ws2 := [(h, .inr (9, [.int (nI now), .int (nI wk), .ref zcoins, .ref zdebt, .ref zfines, .ref zreading, .int (nI rk), .ref zruleYear, .ref zruleWhat, .ref zruleShare, .int (nI k), .ref zstate, .ref zholder, .ref zyearOf, .ref zusedIn, .ref zprojectOf, .ref zwent, .int ii, .int (nI bk), .ref zbidWorks, .ref zbidMany, .ref zbidPrice, .int (aa + ((gt i) * pr)), .int (nI pj), .ref zisFalse, .ref zcutMany, .ref ztonnes, .ref zcosts, .ref zgiven, .ref zcutOff, .ref zgot, .ref zcutsOf, .int sm, .int mg])), (zcoins, .inl (cI, 10, .inl (upd co ww ((co ww) - ((gt i) * pr))))), (zruleYear, .inl (cI, 30, .inl RY)), (zruleShare, .inl (cI, 30, .inl RS)), (zstate, .inl (cI, 4000, .inl ST)), (zholder, .inl (cI, 4000, .inl ho)), (zwent, .inl (cI, 4000, .inl mv)), (zbidWorks, .inl (cI, 40, .inl bW)), (zbidMany, .inl (cI, 40, .inl bM)), (zbidPrice, .inl (cI, 40, .inl bP)), (zgot, .inl (cI, 40, .inl gt))]) hC (fun _ h => List.mem_cons_of_mem _ (List.mem_append_right _ h)) tyX9_ok nmX9 hH 0 rfl rfl 22 (by decide) (by decide +kernel) rfl rfl rfl rfl (Nat.le_of_ble_eq_true rfl) rfl dX9_auction_222 (fun H locs hH => ?_)
                      refine lv_iinc (v := nI (i + 1)) (lv' := [(4, .int (nI (i + 1))), (0, .ref h), (1, .int (nI l4)), (2, .int (nI f)), (3, .int pr)]) zx zy dX9_auction_225 hl (k := 4) rfl (nI_1 _) (by decide) rfl (fun ls hl => ?_)
                      refine lv_goto (tgt := 174) zx zy dX9_auction_228 (by decide) ?_
                      exact ih174 (i + 1) (upd co ww ((co ww) - ((gt i) * pr))) (aa + ((gt i) * pr)) (by first | assumption | omega) (by subst hco; simp only [payM, eww, nI_clamp (show ww < 2 ^ 31 by omega)]) (by subst haa; rfl) _ _ _ (by omega) hH (lv_sub hl [1, 2, 3, 4, 0] rfl)
                exact L174 _ 0 CO ac (by first | assumption | omega) (rfl) (rfl) _ _ _ (Nat.lt_succ_self _) hH (lv_sub hl [1, 2, 3, 4, 0] rfl)
              · skip
                have hpp0 : 0 < pp := Nat.pos_of_ne_zero (fun e => c60 ((pI_lt hpp hf).mpr (by omega)))
                have hpf2 : ¬ pp ≤ f := fun z => c60 ((pI_lt hpp hf).mpr z)
                refine lv_iconst (v := 0) zx zy dX9_auction_63 (by decide) ?_
                refine lv_topi (fun v13 ev13 => ?_)
                obtain rfl : v13 = nI 0 := ev13.trans (rfl)
                refine lv_istore (lv' := [(5, .int (nI 0)), (0, .ref h), (1, .int (nI l4)), (2, .int (nI f)), (3, .int pr), (4, .int (pI pp))]) zx zy dX9_auction_64 hl (by decide) rfl (fun ls hl => ?_)
                have L66 : ∀ (fu : Nat) (b : Nat) (t : Nat) (l4 : Nat) (pr : Int32) (ho : Nat → Int32) (mv : Nat → Int32) (gt : Nat → Int32) (hb : b ≤ bk) (hT : bdT B2 bk s pp b t) (hx : ho = (hmT ST B0 B1 B2 k (HO, WE, B3, nI f) t).1 ∧ mv = (hmT ST B0 B1 B2 k (HO, WE, B3, nI f) t).2.1) (hlc : l4 = cntP (hW ST ho 0) k) (hgt : ∀ i, i < bk → gt (s i) = (hmT ST B0 B1 B2 k (HO, WE, B3, nI f) t).2.2.1 i) (hpr : pr = hmP ST k (nI f) (hmT ST B0 B1 B2 k (HO, WE, B3, nI f) t)) (H : Heap) (locs : List Loc) (ls : Array Slot), bk - b < fu → fx_H zA zs.heap H locs D [(h, .inr (9, [.int (nI now), .int (nI wk), .ref zcoins, .ref zdebt, .ref zfines, .ref zreading, .int (nI rk), .ref zruleYear, .ref zruleWhat, .ref zruleShare, .int (nI k), .ref zstate, .ref zholder, .ref zyearOf, .ref zusedIn, .ref zprojectOf, .ref zwent, .int ii, .int (nI bk), .ref zbidWorks, .ref zbidMany, .ref zbidPrice, .int ac, .int (nI pj), .ref zisFalse, .ref zcutMany, .ref ztonnes, .ref zcosts, .ref zgiven, .ref zcutOff, .ref zgot, .ref zcutsOf, .int sm, .int mg])), (zcoins, .inl (cI, 10, .inl CO)), (zruleYear, .inl (cI, 30, .inl RY)), (zruleShare, .inl (cI, 30, .inl RS)), (zstate, .inl (cI, 4000, .inl ST)), (zholder, .inl (cI, 4000, .inl ho)), (zwent, .inl (cI, 4000, .inl mv)), (zbidWorks, .inl (cI, 40, .inl bW)), (zbidMany, .inl (cI, 40, .inl bM)), (zbidPrice, .inl (cI, 40, .inl bP)), (zgot, .inl (cI, 40, .inl gt))] → lv_has ls 6 [(0, .ref h), (1, .int (nI l4)), (2, .int (nI f)), (3, .int pr), (4, .int (pI pp)), (5, .int (nI b))] → W zp l ze ({ frames := 2, cells := 0, slots := 0, locals := 47 }) zs zm za zb zt zc H locs (0) (0) zQ (F0 zm 66 ls []) := by
                  intro fu
                  induction fu with
                  | zero => intro b t l4 pr ho mv gt hb hT hx hlc hgt hpr H locs ls hfu; exact absurd hfu (Nat.not_lt_zero _)
                  | succ fu ih66 =>
                    intro b t l4 pr ho mv gt hb hT hx hlc hgt hpr H locs ls hfu66 hH hl
                    refine lv_iload zx zy dX9_auction_66 (lv_at hl 5 rfl) ?_
                    refine lv_aload_n zx zy dX9_auction_68 rfl (lv_at hl 0 rfl) ?_
                    refine fx_get (C := RX9) (T := TX9) (N := 34) hC (fun _ h => List.mem_cons_of_mem _ (List.mem_append_right _ h)) hH 0 rfl rfl 18 (by decide) (by decide +kernel) rfl dX9_auction_69 ?_
                    refine lv_icmp_ge (tgt := 165) zx zy dX9_auction_72 (by decide) (fun c72 => ?_) (fun c72 => ?_)
                    · skip
                      have hbb : b = bk := Nat.le_antisymm hb (fx_le_of c72 (by omega) (by omega))
                      refine lv_iinc (v := pI (pp - 1)) (lv' := [(4, .int (pI (pp - 1))), (0, .ref h), (1, .int (nI l4)), (2, .int (nI f)), (3, .int pr), (5, .int (nI b))]) zx zy dX9_auction_165 hl (k := 4) rfl (pI_s hpp0) (by decide) rfl (fun ls hl => ?_)
                      refine lv_goto (tgt := 57) zx zy dX9_auction_168 (by decide) ?_
                      exact ih57 (pp - 1) _ l4 pr ho mv gt (by first | assumption | omega) (by omega) (bdT_row hR hpp0 (by have q := hT; rw [hbb] at q; exact q)) (hx) (hlc) (hgt) (hpr) _ _ _ (by omega) hH (lv_sub hl [1, 2, 3, 4, 0] rfl)
                    · skip
                      have hbl : b < bk := fx_lt_of c72 (by omega)
                      obtain ⟨cq, hcq, ecq⟩ := bd_nI hR hbl
                      have hlk := cntP_le (hW ST ho 0) k
                      refine lv_aload_n zx zy dX9_auction_75 rfl (lv_at hl 0 rfl) ?_
                      refine fx_get (C := RX9) (T := TX9) (N := 34) hC (fun _ h => List.mem_cons_of_mem _ (List.mem_append_right _ h)) hH 0 rfl rfl 21 (by decide) (by decide +kernel) rfl dX9_auction_76 ?_
                      refine lv_iload zx zy dX9_auction_79 (lv_at hl 5 rfl) ?_
                      refine fx_ild hC hH 9 rfl (vp_in_nI (by omega) (by omega)) dX9_auction_81 ?_
                      refine lv_topi (fun v14 ev14 => ?_)
                      obtain rfl : v14 = bP b := ev14.trans (congrArg bP (nI_clamp (by omega)))
                      refine lv_iload zx zy dX9_auction_82 (lv_at hl 4 rfl) ?_
                      refine lv_icmp_ne (tgt := 159) zx zy dX9_auction_84 (by decide) (fun c84 => ?_) (fun c84 => ?_)
                      · skip
                        have hTn := bdT_skip hR hT (fun z => c84 (by rw [ecq]; rw [ecq, nI_clamp (by omega)] at z; exact (pI_eq hpp0 hpp hcq).mpr z))
                        have hxn := hx
                        have hlcn := hlc
                        have hgtn := hgt
                        have hprn := hpr
                        refine lv_iinc (v := nI (b + 1)) (lv' := [(5, .int (nI (b + 1))), (0, .ref h), (1, .int (nI l4)), (2, .int (nI f)), (3, .int pr), (4, .int (pI pp))]) zx zy dX9_auction_159 hl (k := 5) rfl (nI_1 _) (by decide) rfl (fun ls hl => ?_)
                        refine lv_goto (tgt := 66) zx zy dX9_auction_162 (by decide) ?_
                        exact ih66 (b + 1) _ l4 pr ho mv gt (by first | assumption | omega) (hTn) (hxn) (hlcn) (hgtn) (hprn) _ _ _ (by omega) hH (lv_sub hl [1, 2, 3, 4, 5, 0] rfl)
                      · skip
                        obtain ⟨htb, hst, hTn⟩ := bdT_hit hR hT hbl (by rw [ecq, nI_clamp (by omega)]; exact (pI_eq hpp0 hpp hcq).mp (by rw [← ecq]; exact c84))
                        obtain ⟨_, r0, r1, r2⟩ := hR.1 t htb
                        rw [hst] at r0 r1 r2
                        obtain ⟨bb, hbb1, hbb2, ebb⟩ := hR.2.1 t htb
                        obtain ⟨ww, hww, eww⟩ := hR.2.2.1 t htb
                        have hto : B0 t + 1 = nI (ww + 1) := by rw [eww]; exact nI_1 ww
                        have hnl : hmN ST ho k (B1 t) ≤ l4 := by rw [hlc]; exact Nat.min_le_right _ _
                        have hxN : hmN ST ho k (B1 t) = hmN ST (hmT ST B0 B1 B2 k (HO, WE, B3, nI f) t).1 k (B1 t) := by rw [hx.1]
                        refine lv_iload_n zx zy dX9_auction_87 rfl (lv_at hl 1 rfl) ?_
                        refine lv_if_ne (tgt := 94) zx zy dX9_auction_88 (by decide) (fun c88 => ?_) (fun c88 => ?_)
                        · skip
                          have hl0 : 0 < l4 := Nat.pos_of_ne_zero (fun e => c88 (by rw [e]; rfl))
                          have hnp : 0 < hmN ST ho k (B1 t) := by unfold hmN; rw [ebb, nI_clamp (by omega), ← hlc]; exact Nat.lt_min.mpr ⟨by omega, hl0⟩
                          have hst1 : hmT ST B0 B1 B2 k (HO, WE, B3, nI f) (t + 1) = ((psI ST k 0 (B0 t) (hmN ST ho k (B1 t)) ho mv).1, (psI ST k 0 (B0 t) (hmN ST ho k (B1 t)) ho mv).2, upd (hmT ST B0 B1 B2 k (HO, WE, B3, nI f) t).2.2.1 t (nI (hmN ST ho k (B1 t))), B2 t) := by rw [hxN, hx.1, hx.2]; exact if_neg (by rw [← hxN]; omega)
                          have hxn : (psI ST k 0 (B0 t) (hmN ST ho k (B1 t)) ho mv).1 = (hmT ST B0 B1 B2 k (HO, WE, B3, nI f) (t + 1)).1 ∧ (psI ST k 0 (B0 t) (hmN ST ho k (B1 t)) ho mv).2 = (hmT ST B0 B1 B2 k (HO, WE, B3, nI f) (t + 1)).2.1 := by rw [hst1]; exact ⟨rfl, rfl⟩
                          have hcp := cnt_psI (st := ST) (k := k) (mv := mv) hto (show 0 ≠ ww + 1 by omega) (by omega) (by omega) (n := hmN ST ho k (B1 t)) (ho := ho) (by rw [← hlc]; exact hnl)
                          have hlcn : l4 - hmN ST ho k (B1 t) = cntP (hW ST (psI ST k 0 (B0 t) (hmN ST ho k (B1 t)) ho mv).1 0) k := by omega
                          have hgtn : ∀ i, i < bk → upd gt b (nI (hmN ST ho k (B1 t))) (s i) = (hmT ST B0 B1 B2 k (HO, WE, B3, nI f) (t + 1)).2.2.1 i := by
                            intro i hi
                            rw [hst1]
                            show (if s i = b then _ else _) = (if i = t then _ else _)
                            by_cases e : i = t
                            · subst e; rw [if_pos hst, if_pos rfl]
                            · have : s i ≠ b := fun z => e (bd_inj hR hi htb (z.trans hst.symm))
                              rw [if_neg this, if_neg e]; exact hgt i hi
                          refine lv_aload_n zx zy dX9_auction_94 rfl (lv_at hl 0 rfl) ?_
                          refine fx_get (C := RX9) (T := TX9) (N := 34) hC (fun _ h => List.mem_cons_of_mem _ (List.mem_append_right _ h)) hH 0 rfl rfl 30 (by decide) (by decide +kernel) rfl dX9_auction_95 ?_
                          refine lv_iload zx zy dX9_auction_98 (lv_at hl 5 rfl) ?_
                          refine lv_aload_n zx zy dX9_auction_100 rfl (lv_at hl 0 rfl) ?_
                          refine fx_get (C := RX9) (T := TX9) (N := 34) hC (fun _ h => List.mem_cons_of_mem _ (List.mem_append_right _ h)) hH 0 rfl rfl 20 (by decide) (by decide +kernel) rfl dX9_auction_101 ?_
                          refine lv_iload zx zy dX9_auction_104 (lv_at hl 5 rfl) ?_
                          refine fx_ild hC hH 8 rfl (vp_in_nI (by omega) (by omega)) dX9_auction_106 ?_
                          refine lv_topi (fun v15 ev15 => ?_)
                          obtain rfl : v15 = bM b := ev15.trans (congrArg bM (nI_clamp (by omega)))
                          refine lv_iload_n zx zy dX9_auction_107 rfl (lv_at hl 1 rfl) ?_
                          refine lv_icmp_ge (tgt := 121) zx zy dX9_auction_108 (by decide) (fun c108 => ?_) (fun c108 => ?_)
                          · skip
                            have hmq : nI l4 = nI (hmN ST ho k (B1 t)) := congrArg nI (by unfold hmN; rw [ebb, nI_clamp (by omega), ← hlc]; exact (Nat.min_eq_right (fx_le_of (by rw [← ebb, r1]; exact c108) (by omega) (by omega))).symm)
                            refine lv_iload_n zx zy dX9_auction_121 rfl (lv_at hl 1 rfl) ?_
                            refine lv_topi (fun v16 ev16 => ?_)
                            obtain rfl : v16 = nI (hmN ST ho k (B1 t)) := ev16.trans (hmq)
                            refine fx_ist (ws2 := [(h, .inr (9, [.int (nI now), .int (nI wk), .ref zcoins, .ref zdebt, .ref zfines, .ref zreading, .int (nI rk), .ref zruleYear, .ref zruleWhat, .ref zruleShare, .int (nI k), .ref zstate, .ref zholder, .ref zyearOf, .ref zusedIn, .ref zprojectOf, .ref zwent, .int ii, .int (nI bk), .ref zbidWorks, .ref zbidMany, .ref zbidPrice, .int ac, .int (nI pj), .ref zisFalse, .ref zcutMany, .ref ztonnes, .ref zcosts, .ref zgiven, .ref zcutOff, .ref zgot, .ref zcutsOf, .int sm, .int mg])), (zcoins, .inl (cI, 10, .inl CO)), (zruleYear, .inl (cI, 30, .inl RY)), (zruleShare, .inl (cI, 30, .inl RS)), (zstate, .inl (cI, 4000, .inl ST)), (zholder, .inl (cI, 4000, .inl ho)), (zwent, .inl (cI, 4000, .inl mv)), (zbidWorks, .inl (cI, 40, .inl bW)), (zbidMany, .inl (cI, 40, .inl bM)), (zbidPrice, .inl (cI, 40, .inl bP)), (zgot, .inl (cI, 40, .inl (upd gt (nI b).toNatClampNeg (nI (hmN ST ho k (B1 t))))))]) hC hH 10 rfl (vp_in_nI (by omega) (by omega)) rfl dX9_auction_122 (fun H locs hH => ?_)
                            rw [show (upd gt (nI b).toNatClampNeg (nI (hmN ST ho k (B1 t))) : Nat → Int32) = upd gt b (nI (hmN ST ho k (B1 t))) from (by rw [nI_clamp (by omega)])] at hH
                            refine lv_iload_n zx zy dX9_auction_123 rfl (lv_at hl 1 rfl) ?_
                            refine lv_aload_n zx zy dX9_auction_124 rfl (lv_at hl 0 rfl) ?_
                            refine fx_get (C := RX9) (T := TX9) (N := 34) hC (fun _ h => List.mem_cons_of_mem _ (List.mem_append_right _ h)) hH 0 rfl rfl 30 (by decide) (by decide +kernel) rfl dX9_auction_125 ?_
                            refine lv_iload zx zy dX9_auction_128 (lv_at hl 5 rfl) ?_
                            refine fx_ild hC hH 10 rfl (vp_in_nI (by omega) (by omega)) dX9_auction_130 ?_
                            refine lv_topi (fun v17 ev17 => ?_)
                            obtain rfl : v17 = nI (hmN ST ho k (B1 t)) := ev17.trans ((congrArg _ (nI_clamp (by omega))).trans pk_us)
                            refine lv_isub zx zy dX9_auction_131 ?_
                            refine lv_topi (fun v18 ev18 => ?_)
                            obtain rfl : v18 = nI (l4 - hmN ST ho k (B1 t)) := ev18.trans (pk_sub hnl)
                            refine lv_istore_n (lv' := [(1, .int (nI (l4 - hmN ST ho k (B1 t)))), (0, .ref h), (2, .int (nI f)), (3, .int pr), (4, .int (pI pp)), (5, .int (nI b))]) zx zy dX9_auction_132 rfl hl (by decide) rfl (fun ls hl => ?_)
                            refine lv_aload_n zx zy dX9_auction_133 rfl (lv_at hl 1 rfl) ?_
                            refine lv_iconst (v := (-1)) zx zy dX9_auction_134 (by decide) ?_
                            refine lv_aload_n zx zy dX9_auction_135 rfl (lv_at hl 1 rfl) ?_
                            refine fx_get (C := RX9) (T := TX9) (N := 34) hC (fun _ h => List.mem_cons_of_mem _ (List.mem_append_right _ h)) hH 0 rfl rfl 19 (by decide) (by decide +kernel) rfl dX9_auction_136 ?_
                            refine lv_iload zx zy dX9_auction_139 (lv_at hl 5 rfl) ?_
                            refine fx_ild hC hH 7 rfl (vp_in_nI (by omega) (by omega)) dX9_auction_141 ?_
                            refine lv_topi (fun v19 ev19 => ?_)
                            obtain rfl : v19 = B0 t := ev19.trans ((congrArg bW (nI_clamp (by omega))).trans r0.symm)
                            refine lv_aload_n zx zy dX9_auction_142 rfl (lv_at hl 1 rfl) ?_
                            refine fx_get (C := RX9) (T := TX9) (N := 34) hC (fun _ h => List.mem_cons_of_mem _ (List.mem_append_right _ h)) hH 0 rfl rfl 30 (by decide) (by decide +kernel) rfl dX9_auction_143 ?_
                            refine lv_iload zx zy dX9_auction_146 (lv_at hl 5 rfl) ?_
                            refine fx_ild hC hH 10 rfl (vp_in_nI (by omega) (by omega)) dX9_auction_148 ?_
                            refine lv_topi (fun v20 ev20 => ?_)
                            obtain rfl : v20 = nI (hmN ST ho k (B1 t)) := ev20.trans ((congrArg _ (nI_clamp (by omega))).trans pk_us)
                            refine fx_cVv (n := 3) (As := [.int (-1), .int (B0 t), .int (nI (hmN ST ho k (B1 t)))]) (b := h) (rest := []) (fun (u : (Nat → Int32) × (Nat → Int32)) => [(h, .inr (9, [.int (nI now), .int (nI wk), .ref zcoins, .ref zdebt, .ref zfines, .ref zreading, .int (nI rk), .ref zruleYear, .ref zruleWhat, .ref zruleShare, .int (nI k), .ref zstate, .ref zholder, .ref zyearOf, .ref zusedIn, .ref zprojectOf, .ref zwent, .int ii, .int (nI bk), .ref zbidWorks, .ref zbidMany, .ref zbidPrice, .int ac, .int (nI pj), .ref zisFalse, .ref zcutMany, .ref ztonnes, .ref zcosts, .ref zgiven, .ref zcutOff, .ref zgot, .ref zcutsOf, .int sm, .int mg])), (zcoins, .inl (cI, 10, .inl CO)), (zruleYear, .inl (cI, 30, .inl RY)), (zruleShare, .inl (cI, 30, .inl RS)), (zstate, .inl (cI, 4000, .inl ST)), (zholder, .inl (cI, 4000, .inl u.1)), (zwent, .inl (cI, 4000, .inl u.2)), (zbidWorks, .inl (cI, 40, .inl bW)), (zbidMany, .inl (cI, 40, .inl bM)), (zbidPrice, .inl (cI, 40, .inl bP)), (zgot, .inl (cI, 40, .inl (upd gt b (nI (hmN ST ho k (B1 t))))))]) hC hA hH (k_X9_goes l D cI cZ h zcoins zdebt zfines zreading zruleYear zruleWhat zruleShare zstate zholder zyearOf zusedIn zprojectOf zwent zbidWorks zbidMany zbidPrice zisFalse zcutMany ztonnes zcosts zgiven zcutOff zgot zcutsOf now wk rk k ii bk ac pj sm mg ST ho mv (-1) (B0 t) 0 (ww + 1) (hmN ST ho k (B1 t)) (by decide) hto (by omega) (by omega) (by omega) (by first | assumption | omega) (by rw [← hlc]; exact hnl)) [0, 4, 5, 6] [1, 2, 3, 7, 8, 9, 10] [7, 0, 1, 2, 8, 9, 10, 3, 4, 5, 6] [(zcoins, .inl (cI, 10, .inl CO)), (zruleYear, .inl (cI, 30, .inl RY)), (zruleShare, .inl (cI, 30, .inl RS)), (zbidWorks, .inl (cI, 40, .inl bW)), (zbidMany, .inl (cI, 40, .inl bM)), (zbidPrice, .inl (cI, 40, .inl bP)), (zgot, .inl (cI, 40, .inl (upd gt b (nI (hmN ST ho k (B1 t))))))] rfl rfl (by decide) (by decide) (fun _ => rfl) rfl gX9_auction_X9_goes (by decide +kernel) ⟨Nat.le_of_ble_eq_true rfl, Nat.le_of_ble_eq_true rfl⟩ 0 rfl rfl rfl rfl rfl hl.1 (Nat.le_of_ble_eq_true rfl) ⟨Nat.le_of_ble_eq_true rfl, Nat.le_of_ble_eq_true rfl⟩ dX9_auction_149 (fun u H locs hw149 hH => ?_)
                            obtain ⟨u22, u23⟩ := u
                            obtain ⟨e24, e25⟩ := hw149
                            obtain rfl : u22 = (psI ST k 0 (B0 t) (hmN ST ho k (B1 t)) ho mv).1 := e24
                            obtain rfl : u23 = (psI ST k 0 (B0 t) (hmN ST ho k (B1 t)) ho mv).2 := e25
                            have hH := (hH : fx_H zA zs.heap H locs D [(h, .inr (9, [.int (nI now), .int (nI wk), .ref zcoins, .ref zdebt, .ref zfines, .ref zreading, .int (nI rk), .ref zruleYear, .ref zruleWhat, .ref zruleShare, .int (nI k), .ref zstate, .ref zholder, .ref zyearOf, .ref zusedIn, .ref zprojectOf, .ref zwent, .int ii, .int (nI bk), .ref zbidWorks, .ref zbidMany, .ref zbidPrice, .int ac, .int (nI pj), .ref zisFalse, .ref zcutMany, .ref ztonnes, .ref zcosts, .ref zgiven, .ref zcutOff, .ref zgot, .ref zcutsOf, .int sm, .int mg])), (zcoins, .inl (cI, 10, .inl CO)), (zruleYear, .inl (cI, 30, .inl RY)), (zruleShare, .inl (cI, 30, .inl RS)), (zstate, .inl (cI, 4000, .inl ST)), (zholder, .inl (cI, 4000, .inl ((psI ST k 0 (B0 t) (hmN ST ho k (B1 t)) ho mv).1))), (zwent, .inl (cI, 4000, .inl ((psI ST k 0 (B0 t) (hmN ST ho k (B1 t)) ho mv).2))), (zbidWorks, .inl (cI, 40, .inl bW)), (zbidMany, .inl (cI, 40, .inl bM)), (zbidPrice, .inl (cI, 40, .inl bP)), (zgot, .inl (cI, 40, .inl (upd gt b (nI (hmN ST ho k (B1 t))))))])
                            refine lv_iload_n zx zy dX9_auction_152 rfl (lv_at hl 0 rfl) ?_
                            refine lv_if_ne (tgt := 159) zx zy dX9_auction_153 (by decide) (fun c153 => ?_) (fun c153 => ?_)
                            · skip
                              have hprn : pr = hmP ST k (nI f) (hmT ST B0 B1 B2 k (HO, WE, B3, nI f) (t + 1)) := by
                                rw [hst1, hpr]
                                refine (if_neg (by rw [← hx.1, ← hlc]; omega)).trans (if_neg ?_).symm
                                show ¬ cntP (hW ST (psI ST k 0 (B0 t) (hmN ST ho k (B1 t)) ho mv).1 0) k = 0
                                rw [← hlcn]; exact fun e => c153 (by rw [e]; rfl)
                              refine lv_iinc (v := nI (b + 1)) (lv' := [(5, .int (nI (b + 1))), (1, .int (nI (l4 - hmN ST ho k (B1 t)))), (0, .ref h), (2, .int (nI f)), (3, .int pr), (4, .int (pI pp))]) zx zy dX9_auction_159 hl (k := 5) rfl (nI_1 _) (by decide) rfl (fun ls hl => ?_)
                              refine lv_goto (tgt := 66) zx zy dX9_auction_162 (by decide) ?_
                              exact ih66 (b + 1) _ (l4 - hmN ST ho k (B1 t)) pr ((psI ST k 0 (B0 t) (hmN ST ho k (B1 t)) ho mv).1) ((psI ST k 0 (B0 t) (hmN ST ho k (B1 t)) ho mv).2) (upd gt b (nI (hmN ST ho k (B1 t)))) (by first | assumption | omega) (hTn) (hxn) (hlcn) (hgtn) (hprn) _ _ _ (by omega) hH (lv_sub hl [2, 1, 3, 4, 5, 0] rfl)
                            · skip
                              have hprn : pI pp = hmP ST k (nI f) (hmT ST B0 B1 B2 k (HO, WE, B3, nI f) (t + 1)) := by
                                rw [hst1]
                                refine Eq.trans ?_ (if_pos ?_).symm
                                · show pI pp = B2 t
                                  rw [r2]; exact c84.symm
                                · show cntP (hW ST (psI ST k 0 (B0 t) (hmN ST ho k (B1 t)) ho mv).1 0) k = 0
                                  rw [← hlcn]; exact (nI_eq (b := 0) (by omega) (by omega)).mp c153
                              refine lv_iload zx zy dX9_auction_156 (lv_at hl 4 rfl) ?_
                              refine lv_istore_n (lv' := [(3, .int (pI pp)), (1, .int (nI (l4 - hmN ST ho k (B1 t)))), (0, .ref h), (2, .int (nI f)), (4, .int (pI pp)), (5, .int (nI b))]) zx zy dX9_auction_158 rfl hl (by decide) rfl (fun ls hl => ?_)
                              refine lv_iinc (v := nI (b + 1)) (lv' := [(5, .int (nI (b + 1))), (3, .int (pI pp)), (1, .int (nI (l4 - hmN ST ho k (B1 t)))), (0, .ref h), (2, .int (nI f)), (4, .int (pI pp))]) zx zy dX9_auction_159 hl (k := 5) rfl (nI_1 _) (by decide) rfl (fun ls hl => ?_)
                              refine lv_goto (tgt := 66) zx zy dX9_auction_162 (by decide) ?_
                              exact ih66 (b + 1) _ (l4 - hmN ST ho k (B1 t)) (pI pp) ((psI ST k 0 (B0 t) (hmN ST ho k (B1 t)) ho mv).1) ((psI ST k 0 (B0 t) (hmN ST ho k (B1 t)) ho mv).2) (upd gt b (nI (hmN ST ho k (B1 t)))) (by first | assumption | omega) (hTn) (hxn) (hlcn) (hgtn) (hprn) _ _ _ (by omega) hH (lv_sub hl [3, 2, 4, 1, 5, 0] rfl)
                          · skip
                            have hmq : bM b = nI (hmN ST ho k (B1 t)) := by rw [← r1, ebb]; exact congrArg nI (by unfold hmN; rw [nI_clamp (by omega), ← hlc]; exact (Nat.min_eq_left (Nat.le_of_lt (fx_lt_of (by rw [← ebb, r1]; exact c108) (by omega)))).symm)
                            refine lv_aload_n zx zy dX9_auction_111 rfl (lv_at hl 0 rfl) ?_
                            refine fx_get (C := RX9) (T := TX9) (N := 34) hC (fun _ h => List.mem_cons_of_mem _ (List.mem_append_right _ h)) hH 0 rfl rfl 20 (by decide) (by decide +kernel) rfl dX9_auction_112 ?_
                            refine lv_iload zx zy dX9_auction_115 (lv_at hl 5 rfl) ?_
                            refine fx_ild hC hH 8 rfl (vp_in_nI (by omega) (by omega)) dX9_auction_117 ?_
                            refine lv_topi (fun v26 ev26 => ?_)
                            obtain rfl : v26 = bM b := ev26.trans (congrArg bM (nI_clamp (by omega)))
                            refine lv_goto (tgt := 122) zx zy dX9_auction_118 (by decide) ?_
                            refine lv_topi (fun v27 ev27 => ?_)
                            obtain rfl : v27 = nI (hmN ST ho k (B1 t)) := ev27.trans (hmq)
                            refine fx_ist (ws2 := [(h, .inr (9, [.int (nI now), .int (nI wk), .ref zcoins, .ref zdebt, .ref zfines, .ref zreading, .int (nI rk), .ref zruleYear, .ref zruleWhat, .ref zruleShare, .int (nI k), .ref zstate, .ref zholder, .ref zyearOf, .ref zusedIn, .ref zprojectOf, .ref zwent, .int ii, .int (nI bk), .ref zbidWorks, .ref zbidMany, .ref zbidPrice, .int ac, .int (nI pj), .ref zisFalse, .ref zcutMany, .ref ztonnes, .ref zcosts, .ref zgiven, .ref zcutOff, .ref zgot, .ref zcutsOf, .int sm, .int mg])), (zcoins, .inl (cI, 10, .inl CO)), (zruleYear, .inl (cI, 30, .inl RY)), (zruleShare, .inl (cI, 30, .inl RS)), (zstate, .inl (cI, 4000, .inl ST)), (zholder, .inl (cI, 4000, .inl ho)), (zwent, .inl (cI, 4000, .inl mv)), (zbidWorks, .inl (cI, 40, .inl bW)), (zbidMany, .inl (cI, 40, .inl bM)), (zbidPrice, .inl (cI, 40, .inl bP)), (zgot, .inl (cI, 40, .inl (upd gt (nI b).toNatClampNeg (nI (hmN ST ho k (B1 t))))))]) hC hH 10 rfl (vp_in_nI (by omega) (by omega)) rfl dX9_auction_122 (fun H locs hH => ?_)
                            rw [show (upd gt (nI b).toNatClampNeg (nI (hmN ST ho k (B1 t))) : Nat → Int32) = upd gt b (nI (hmN ST ho k (B1 t))) from (by rw [nI_clamp (by omega)])] at hH
                            refine lv_iload_n zx zy dX9_auction_123 rfl (lv_at hl 1 rfl) ?_
                            refine lv_aload_n zx zy dX9_auction_124 rfl (lv_at hl 0 rfl) ?_
                            refine fx_get (C := RX9) (T := TX9) (N := 34) hC (fun _ h => List.mem_cons_of_mem _ (List.mem_append_right _ h)) hH 0 rfl rfl 30 (by decide) (by decide +kernel) rfl dX9_auction_125 ?_
                            refine lv_iload zx zy dX9_auction_128 (lv_at hl 5 rfl) ?_
                            refine fx_ild hC hH 10 rfl (vp_in_nI (by omega) (by omega)) dX9_auction_130 ?_
                            refine lv_topi (fun v28 ev28 => ?_)
                            obtain rfl : v28 = nI (hmN ST ho k (B1 t)) := ev28.trans ((congrArg _ (nI_clamp (by omega))).trans pk_us)
                            refine lv_isub zx zy dX9_auction_131 ?_
                            refine lv_topi (fun v29 ev29 => ?_)
                            obtain rfl : v29 = nI (l4 - hmN ST ho k (B1 t)) := ev29.trans (pk_sub hnl)
                            refine lv_istore_n (lv' := [(1, .int (nI (l4 - hmN ST ho k (B1 t)))), (0, .ref h), (2, .int (nI f)), (3, .int pr), (4, .int (pI pp)), (5, .int (nI b))]) zx zy dX9_auction_132 rfl hl (by decide) rfl (fun ls hl => ?_)
                            refine lv_aload_n zx zy dX9_auction_133 rfl (lv_at hl 1 rfl) ?_
                            refine lv_iconst (v := (-1)) zx zy dX9_auction_134 (by decide) ?_
                            refine lv_aload_n zx zy dX9_auction_135 rfl (lv_at hl 1 rfl) ?_
                            refine fx_get (C := RX9) (T := TX9) (N := 34) hC (fun _ h => List.mem_cons_of_mem _ (List.mem_append_right _ h)) hH 0 rfl rfl 19 (by decide) (by decide +kernel) rfl dX9_auction_136 ?_
                            refine lv_iload zx zy dX9_auction_139 (lv_at hl 5 rfl) ?_
                            refine fx_ild hC hH 7 rfl (vp_in_nI (by omega) (by omega)) dX9_auction_141 ?_
                            refine lv_topi (fun v30 ev30 => ?_)
                            obtain rfl : v30 = B0 t := ev30.trans ((congrArg bW (nI_clamp (by omega))).trans r0.symm)
                            refine lv_aload_n zx zy dX9_auction_142 rfl (lv_at hl 1 rfl) ?_
                            refine fx_get (C := RX9) (T := TX9) (N := 34) hC (fun _ h => List.mem_cons_of_mem _ (List.mem_append_right _ h)) hH 0 rfl rfl 30 (by decide) (by decide +kernel) rfl dX9_auction_143 ?_
                            refine lv_iload zx zy dX9_auction_146 (lv_at hl 5 rfl) ?_
                            refine fx_ild hC hH 10 rfl (vp_in_nI (by omega) (by omega)) dX9_auction_148 ?_
                            refine lv_topi (fun v31 ev31 => ?_)
                            obtain rfl : v31 = nI (hmN ST ho k (B1 t)) := ev31.trans ((congrArg _ (nI_clamp (by omega))).trans pk_us)
                            refine fx_cVv (n := 3) (As := [.int (-1), .int (B0 t), .int (nI (hmN ST ho k (B1 t)))]) (b := h) (rest := []) (fun (u : (Nat → Int32) × (Nat → Int32)) => [(h, .inr (9, [.int (nI now), .int (nI wk), .ref zcoins, .ref zdebt, .ref zfines, .ref zreading, .int (nI rk), .ref zruleYear, .ref zruleWhat, .ref zruleShare, .int (nI k), .ref zstate, .ref zholder, .ref zyearOf, .ref zusedIn, .ref zprojectOf, .ref zwent, .int ii, .int (nI bk), .ref zbidWorks, .ref zbidMany, .ref zbidPrice, .int ac, .int (nI pj), .ref zisFalse, .ref zcutMany, .ref ztonnes, .ref zcosts, .ref zgiven, .ref zcutOff, .ref zgot, .ref zcutsOf, .int sm, .int mg])), (zcoins, .inl (cI, 10, .inl CO)), (zruleYear, .inl (cI, 30, .inl RY)), (zruleShare, .inl (cI, 30, .inl RS)), (zstate, .inl (cI, 4000, .inl ST)), (zholder, .inl (cI, 4000, .inl u.1)), (zwent, .inl (cI, 4000, .inl u.2)), (zbidWorks, .inl (cI, 40, .inl bW)), (zbidMany, .inl (cI, 40, .inl bM)), (zbidPrice, .inl (cI, 40, .inl bP)), (zgot, .inl (cI, 40, .inl (upd gt b (nI (hmN ST ho k (B1 t))))))]) hC hA hH (k_X9_goes l D cI cZ h zcoins zdebt zfines zreading zruleYear zruleWhat zruleShare zstate zholder zyearOf zusedIn zprojectOf zwent zbidWorks zbidMany zbidPrice zisFalse zcutMany ztonnes zcosts zgiven zcutOff zgot zcutsOf now wk rk k ii bk ac pj sm mg ST ho mv (-1) (B0 t) 0 (ww + 1) (hmN ST ho k (B1 t)) (by decide) hto (by omega) (by omega) (by omega) (by first | assumption | omega) (by rw [← hlc]; exact hnl)) [0, 4, 5, 6] [1, 2, 3, 7, 8, 9, 10] [7, 0, 1, 2, 8, 9, 10, 3, 4, 5, 6] [(zcoins, .inl (cI, 10, .inl CO)), (zruleYear, .inl (cI, 30, .inl RY)), (zruleShare, .inl (cI, 30, .inl RS)), (zbidWorks, .inl (cI, 40, .inl bW)), (zbidMany, .inl (cI, 40, .inl bM)), (zbidPrice, .inl (cI, 40, .inl bP)), (zgot, .inl (cI, 40, .inl (upd gt b (nI (hmN ST ho k (B1 t))))))] rfl rfl (by decide) (by decide) (fun _ => rfl) rfl gX9_auction_X9_goes (by decide +kernel) ⟨Nat.le_of_ble_eq_true rfl, Nat.le_of_ble_eq_true rfl⟩ 0 rfl rfl rfl rfl rfl hl.1 (Nat.le_of_ble_eq_true rfl) ⟨Nat.le_of_ble_eq_true rfl, Nat.le_of_ble_eq_true rfl⟩ dX9_auction_149 (fun u H locs hw149 hH => ?_)
                            obtain ⟨u33, u34⟩ := u
                            obtain ⟨e35, e36⟩ := hw149
                            obtain rfl : u33 = (psI ST k 0 (B0 t) (hmN ST ho k (B1 t)) ho mv).1 := e35
                            obtain rfl : u34 = (psI ST k 0 (B0 t) (hmN ST ho k (B1 t)) ho mv).2 := e36
                            have hH := (hH : fx_H zA zs.heap H locs D [(h, .inr (9, [.int (nI now), .int (nI wk), .ref zcoins, .ref zdebt, .ref zfines, .ref zreading, .int (nI rk), .ref zruleYear, .ref zruleWhat, .ref zruleShare, .int (nI k), .ref zstate, .ref zholder, .ref zyearOf, .ref zusedIn, .ref zprojectOf, .ref zwent, .int ii, .int (nI bk), .ref zbidWorks, .ref zbidMany, .ref zbidPrice, .int ac, .int (nI pj), .ref zisFalse, .ref zcutMany, .ref ztonnes, .ref zcosts, .ref zgiven, .ref zcutOff, .ref zgot, .ref zcutsOf, .int sm, .int mg])), (zcoins, .inl (cI, 10, .inl CO)), (zruleYear, .inl (cI, 30, .inl RY)), (zruleShare, .inl (cI, 30, .inl RS)), (zstate, .inl (cI, 4000, .inl ST)), (zholder, .inl (cI, 4000, .inl ((psI ST k 0 (B0 t) (hmN ST ho k (B1 t)) ho mv).1))), (zwent, .inl (cI, 4000, .inl ((psI ST k 0 (B0 t) (hmN ST ho k (B1 t)) ho mv).2))), (zbidWorks, .inl (cI, 40, .inl bW)), (zbidMany, .inl (cI, 40, .inl bM)), (zbidPrice, .inl (cI, 40, .inl bP)), (zgot, .inl (cI, 40, .inl (upd gt b (nI (hmN ST ho k (B1 t))))))])
                            refine lv_iload_n zx zy dX9_auction_152 rfl (lv_at hl 0 rfl) ?_
                            refine lv_if_ne (tgt := 159) zx zy dX9_auction_153 (by decide) (fun c153 => ?_) (fun c153 => ?_)
                            · skip
                              have hprn : pr = hmP ST k (nI f) (hmT ST B0 B1 B2 k (HO, WE, B3, nI f) (t + 1)) := by
                                rw [hst1, hpr]
                                refine (if_neg (by rw [← hx.1, ← hlc]; omega)).trans (if_neg ?_).symm
                                show ¬ cntP (hW ST (psI ST k 0 (B0 t) (hmN ST ho k (B1 t)) ho mv).1 0) k = 0
                                rw [← hlcn]; exact fun e => c153 (by rw [e]; rfl)
                              refine lv_iinc (v := nI (b + 1)) (lv' := [(5, .int (nI (b + 1))), (1, .int (nI (l4 - hmN ST ho k (B1 t)))), (0, .ref h), (2, .int (nI f)), (3, .int pr), (4, .int (pI pp))]) zx zy dX9_auction_159 hl (k := 5) rfl (nI_1 _) (by decide) rfl (fun ls hl => ?_)
                              refine lv_goto (tgt := 66) zx zy dX9_auction_162 (by decide) ?_
                              exact ih66 (b + 1) _ (l4 - hmN ST ho k (B1 t)) pr ((psI ST k 0 (B0 t) (hmN ST ho k (B1 t)) ho mv).1) ((psI ST k 0 (B0 t) (hmN ST ho k (B1 t)) ho mv).2) (upd gt b (nI (hmN ST ho k (B1 t)))) (by first | assumption | omega) (hTn) (hxn) (hlcn) (hgtn) (hprn) _ _ _ (by omega) hH (lv_sub hl [2, 1, 3, 4, 5, 0] rfl)
                            · skip
                              have hprn : pI pp = hmP ST k (nI f) (hmT ST B0 B1 B2 k (HO, WE, B3, nI f) (t + 1)) := by
                                rw [hst1]
                                refine Eq.trans ?_ (if_pos ?_).symm
                                · show pI pp = B2 t
                                  rw [r2]; exact c84.symm
                                · show cntP (hW ST (psI ST k 0 (B0 t) (hmN ST ho k (B1 t)) ho mv).1 0) k = 0
                                  rw [← hlcn]; exact (nI_eq (b := 0) (by omega) (by omega)).mp c153
                              refine lv_iload zx zy dX9_auction_156 (lv_at hl 4 rfl) ?_
                              refine lv_istore_n (lv' := [(3, .int (pI pp)), (1, .int (nI (l4 - hmN ST ho k (B1 t)))), (0, .ref h), (2, .int (nI f)), (4, .int (pI pp)), (5, .int (nI b))]) zx zy dX9_auction_158 rfl hl (by decide) rfl (fun ls hl => ?_)
                              refine lv_iinc (v := nI (b + 1)) (lv' := [(5, .int (nI (b + 1))), (3, .int (pI pp)), (1, .int (nI (l4 - hmN ST ho k (B1 t)))), (0, .ref h), (2, .int (nI f)), (4, .int (pI pp))]) zx zy dX9_auction_159 hl (k := 5) rfl (nI_1 _) (by decide) rfl (fun ls hl => ?_)
                              refine lv_goto (tgt := 66) zx zy dX9_auction_162 (by decide) ?_
                              exact ih66 (b + 1) _ (l4 - hmN ST ho k (B1 t)) (pI pp) ((psI ST k 0 (B0 t) (hmN ST ho k (B1 t)) ho mv).1) ((psI ST k 0 (B0 t) (hmN ST ho k (B1 t)) ho mv).2) (upd gt b (nI (hmN ST ho k (B1 t)))) (by first | assumption | omega) (hTn) (hxn) (hlcn) (hgtn) (hprn) _ _ _ (by omega) hH (lv_sub hl [3, 2, 4, 1, 5, 0] rfl)
                        · skip
                          have hl0 : l4 = 0 := (nI_eq (b := 0) (by omega) (by omega)).mp c88
                          have hst1 : hmT ST B0 B1 B2 k (HO, WE, B3, nI f) (t + 1) = hmT ST B0 B1 B2 k (HO, WE, B3, nI f) t := if_pos (by rw [← hxN]; omega)
                          have hxn : ho = (hmT ST B0 B1 B2 k (HO, WE, B3, nI f) (t + 1)).1 ∧ mv = (hmT ST B0 B1 B2 k (HO, WE, B3, nI f) (t + 1)).2.1 := by rw [hst1]; exact hx
                          have hlcn := hlc
                          have hgtn : ∀ i, i < bk → gt (s i) = (hmT ST B0 B1 B2 k (HO, WE, B3, nI f) (t + 1)).2.2.1 i := by rw [hst1]; exact hgt
                          have hprn : pr = hmP ST k (nI f) (hmT ST B0 B1 B2 k (HO, WE, B3, nI f) (t + 1)) := by rw [hst1]; exact hpr
                          refine lv_goto (tgt := 159) zx zy dX9_auction_91 (by decide) ?_
                          refine lv_iinc (v := nI (b + 1)) (lv' := [(5, .int (nI (b + 1))), (0, .ref h), (1, .int (nI l4)), (2, .int (nI f)), (3, .int pr), (4, .int (pI pp))]) zx zy dX9_auction_159 hl (k := 5) rfl (nI_1 _) (by decide) rfl (fun ls hl => ?_)
                          refine lv_goto (tgt := 66) zx zy dX9_auction_162 (by decide) ?_
                          exact ih66 (b + 1) _ l4 pr ho mv gt (by first | assumption | omega) (hTn) (hxn) (hlcn) (hgtn) (hprn) _ _ _ (by omega) hH (lv_sub hl [1, 2, 3, 4, 5, 0] rfl)
                exact L66 _ 0 t l4 pr ho mv gt (by first | assumption | omega) (hT) (hx) (hlc) (hgt) (hpr) _ _ _ (Nat.lt_succ_self _) hH (lv_sub hl [1, 2, 3, 4, 5, 0] rfl)
          exact L57 _ 1000 0 (cntP (hW ST HO 0) k) (nI f) HO WE (preF GT (fun _ => 0) bk) (Nat.le_refl 1000) (by omega) (bdT_0 hR) (⟨rfl, rfl⟩) (rfl) (fun i hi => (preF_in (f := GT) (g := fun _ => 0) (hR.1 i hi).1).trans (hB3 i hi).symm) (if_neg hc0).symm _ _ _ (Nat.lt_succ_self _) hH (lv_sub hl [1, 2, 3, 4, 0] rfl)
        · skip
          have hlt : i < bk := fx_lt_of c35 (by omega)
          refine lv_aload_n zx zy dX9_auction_38 rfl (lv_at hl 0 rfl) ?_
          refine fx_get (C := RX9) (T := TX9) (N := 34) hC (fun _ h => List.mem_cons_of_mem _ (List.mem_append_right _ h)) hH 0 rfl rfl 30 (by decide) (by decide +kernel) rfl dX9_auction_39 ?_
          refine lv_iload zx zy dX9_auction_42 (lv_at hl 4 rfl) ?_
          refine lv_iconst (v := 0) zx zy dX9_auction_44 (by decide) ?_
          refine fx_ist (ws2 := [(h, .inr (9, [.int (nI now), .int (nI wk), .ref zcoins, .ref zdebt, .ref zfines, .ref zreading, .int (nI rk), .ref zruleYear, .ref zruleWhat, .ref zruleShare, .int (nI k), .ref zstate, .ref zholder, .ref zyearOf, .ref zusedIn, .ref zprojectOf, .ref zwent, .int ii, .int (nI bk), .ref zbidWorks, .ref zbidMany, .ref zbidPrice, .int ac, .int (nI pj), .ref zisFalse, .ref zcutMany, .ref ztonnes, .ref zcosts, .ref zgiven, .ref zcutOff, .ref zgot, .ref zcutsOf, .int sm, .int mg])), (zcoins, .inl (cI, 10, .inl CO)), (zruleYear, .inl (cI, 30, .inl RY)), (zruleShare, .inl (cI, 30, .inl RS)), (zstate, .inl (cI, 4000, .inl ST)), (zholder, .inl (cI, 4000, .inl HO)), (zwent, .inl (cI, 4000, .inl WE)), (zbidWorks, .inl (cI, 40, .inl bW)), (zbidMany, .inl (cI, 40, .inl bM)), (zbidPrice, .inl (cI, 40, .inl bP)), (zgot, .inl (cI, 40, .inl (upd (preF GT (fun _ => 0) i) (nI i).toNatClampNeg 0)))]) hC hH 10 rfl (vp_in_nI (by omega) (by omega)) rfl dX9_auction_45 (fun H locs hH => ?_)
          rw [show (upd (preF GT (fun _ => 0) i) (nI i).toNatClampNeg 0 : Nat → Int32) = upd (preF GT (fun _ => 0) i) i 0 from (by rw [nI_clamp (by omega)])] at hH
          rw [show (upd (preF GT (fun _ => 0) i) i 0 : Nat → Int32) = preF GT (fun _ => 0) (i + 1) from preF_upd rfl] at hH
          refine lv_iinc (v := nI (i + 1)) (lv' := [(4, .int (nI (i + 1))), (0, .ref h), (1, .int (nI (cntP (hW ST HO 0) k))), (2, .int (nI f)), (3, .int (nI f))]) zx zy dX9_auction_46 hl (k := 4) rfl (nI_1 _) (by decide) rfl (fun ls hl => ?_)
          refine lv_goto (tgt := 29) zx zy dX9_auction_49 (by decide) ?_
          exact ih29 (i + 1) (by first | assumption | omega) _ _ _ (by omega) hH (lv_sub hl [1, 2, 3, 4, 0] rfl)
    exact L29 _ 0 (by first | assumption | omega) _ _ _ (Nat.lt_succ_self _) (by rw [preF_0]; exact hH) (lv_sub hl [4, 3, 2, 1, 0] rfl)
  · skip
    have hc0 : cntP (hW ST HO 0) k = 0 := (nI_eq (b := 0) (by omega) (by omega)).mp c7
    refine lv_iconst (v := (-1)) zx zy dX9_auction_10 (by decide) ?_
    exact fx_iret (v := (-1)) hQ hC hr hlk hH dX9_auction_11 rfl (Nat.le_of_ble_eq_true rfl) (Nat.le_of_ble_eq_true rfl) ((CO, HO, WE, GT, bk, ac)) rfl (Or.inr ⟨hc0, rfl, rfl, rfl, rfl, rfl, rfl, rfl⟩)
