theorem i1_inj {a b : Int32} (h : a + 1 = b + 1) : a = b := by
  have h2 : a + 1 - 1 = b + 1 - 1 := by rw [h]
  rwa [Int32.add_sub_cancel, Int32.add_sub_cancel] at h2
def cntP (P : Nat → Bool) : Nat → Nat
  | 0 => 0
  | k + 1 => cntP P k + (if P k then 1 else 0)
def fsP (P : Nat → Bool) : Nat → Nat → Nat
  | 0, p => p
  | fu + 1, p => if P p then p else fsP P fu (p + 1)
/-- the permit j is held by the one of index wi (the house 0, a works one more than its number) -/
def hW (st ho : Nat → Int32) (wi : Nat) (j : Nat) : Bool := decide (st j = 0 ∧ ho j + 1 = nI wi)
theorem cntP_le (P : Nat → Bool) : ∀ k, cntP P k ≤ k
  | 0 => Nat.le_refl _
  | k + 1 => by have := cntP_le P k; unfold cntP; split <;> omega
theorem cntP_zero {P : Nat → Bool} : ∀ {k : Nat}, (∀ j, j < k → P j = false) → cntP P k = 0
  | 0, _ => rfl
  | k + 1, h => by
    unfold cntP
    rw [cntP_zero (fun j hj => h j (by omega)), h k (by omega)]
    rfl
theorem cntP_congr {P Q : Nat → Bool} : ∀ {k : Nat}, (∀ j, j < k → P j = Q j) → cntP P k = cntP Q k
  | 0, _ => rfl
  | k + 1, h => by
    unfold cntP
    rw [cntP_congr (fun j hj => h j (by omega)), h k (by omega)]
theorem cntP_drop {P Q : Nat → Bool} {p : Nat} : ∀ {k : Nat}, p < k → (∀ j, j ≠ p → Q j = P j) → P p = true → Q p = false → cntP Q k + 1 = cntP P k
  | 0, h, _, _, _ => absurd h (by omega)
  | k + 1, h, ho, h1, h2 => by
    unfold cntP
    by_cases e : p = k
    · subst e
      rw [cntP_congr (fun j hj => ho j (by omega)), h1, h2]
      simp
    · rw [ho k (fun q => e q.symm), ← cntP_drop (by omega) ho h1 h2]
      omega
theorem fsP_eq {P : Nat → Bool} {q : Nat} : ∀ {fu p : Nat}, p ≤ q → q ≤ p + fu → (∀ j, p ≤ j → j < q → P j = false) → (q = p + fu ∨ P q = true) → fsP P fu p = q
  | 0, p, h1, h2, _, _ => by show p = q; omega
  | fu + 1, p, h1, h2, h3, h4 => by
    unfold fsP
    by_cases e : p = q
    · subst e
      rcases h4 with h4 | h4
      · omega
      · rw [if_pos h4]
    · rw [if_neg (by rw [h3 p (Nat.le_refl _) (by omega)]; decide)]
      exact fsP_eq (by omega) (by omega) (fun j a b => h3 j (by omega) b) (h4.imp (fun z => by omega) id)
theorem fsP_spec (P : Nat → Bool) : ∀ (fu p : Nat), p ≤ fsP P fu p ∧ fsP P fu p ≤ p + fu ∧ (∀ j, p ≤ j → j < fsP P fu p → P j = false) ∧ (fsP P fu p < p + fu → P (fsP P fu p) = true)
  | 0, p => ⟨Nat.le_refl _, Nat.le_refl _, fun j a b => absurd b (by show ¬ j < p; omega), fun h => absurd h (by show ¬ p < p + 0; omega)⟩
  | fu + 1, p => by
    unfold fsP
    by_cases e : P p = true
    · rw [if_pos e]
      exact ⟨Nat.le_refl _, by omega, fun j a b => absurd b (by omega), fun _ => e⟩
    · rw [if_neg e]
      obtain ⟨h1, h2, h3, h4⟩ := fsP_spec P fu (p + 1)
      refine ⟨by omega, by omega, fun j a b => ?_, fun h => h4 (by omega)⟩
      by_cases q : j = p
      · subst q; simpa using e
      · exact h3 j (by omega) b
theorem fsP_lt {P : Nat → Bool} {k : Nat} (h : 0 < cntP P k) : fsP P k 0 < k := by
  obtain ⟨-, h2, h3, -⟩ := fsP_spec P k 0
  rcases Nat.lt_or_ge (fsP P k 0) k with q | q
  · exact q
  · rw [cntP_zero (fun j hj => h3 j (by omega) (by omega))] at h
    omega
theorem fsP_at {P : Nat → Bool} {k : Nat} (h : 0 < cntP P k) : P (fsP P k 0) = true := (fsP_spec P k 0).2.2.2 (by have := fsP_lt h; omega)
/-- what held and searched say -/
def pOk (st ho hd sr : Nat → Int32) (k : Nat) : Prop := ∀ wi, wi < 11 → hd wi = nI (cntP (hW st ho wi) k) ∧ ∃ s, s ≤ k ∧ sr wi = nI s ∧ ∀ p, p < s → hW st ho wi p = false
/-- searched alone -/
def sOk (st ho sr : Nat → Int32) (k : Nat) : Prop := ∀ wi, wi < 11 → ∃ s, s ≤ k ∧ sr wi = nI s ∧ ∀ p, p < s → hW st ho wi p = false
theorem pOk.s {st ho hd sr : Nat → Int32} {k : Nat} (h : pOk st ho hd sr k) : sOk st ho sr k := fun wi hw => (h wi hw).2
theorem hW_t {st ho : Nat → Int32} {wi p : Nat} {who : Int32} (hw : who + 1 = nI wi) (h1 : st p = 0) (h2 : ho p = who) : hW st ho wi p = true := decide_eq_true ⟨h1, by rw [h2, hw]⟩
theorem hW_f1 {st ho : Nat → Int32} {wi p : Nat} (h : ¬ st p = 0) : hW st ho wi p = false := decide_eq_false (fun q => h q.1)
theorem hW_f2 {st ho : Nat → Int32} {wi p : Nat} {who : Int32} (hw : who + 1 = nI wi) (h : ¬ ho p = who) : hW st ho wi p = false := decide_eq_false (fun q => h (i1_inj (q.2.trans hw.symm)))
theorem lt_next {P : Nat → Bool} {p : Nat} (h : ∀ j, j < p → P j = false) (hp : P p = false) : ∀ j, j < p + 1 → P j = false := fun j hj => by
  by_cases e : j = p
  · rw [e]; exact hp
  · exact h j (by omega)
theorem sOk_least {st ho sr : Nat → Int32} {k wi : Nat} (h : sOk st ho sr k) : sOk st ho (upd sr wi (nI (fsP (hW st ho wi) k 0))) k := by
  intro w hw
  by_cases e : w = wi
  · subst e
    obtain ⟨-, h2, h3, -⟩ := fsP_spec (hW st ho w) k 0
    exact ⟨_, by omega, pk_us, fun p hp => h3 p (by omega) hp⟩
  · rw [pk_un e]
    exact h w hw
/-- permits that go from one to another, those of the least numbers -/
def psI (st : Nat → Int32) (k wf : Nat) (to : Int32) : Nat → (Nat → Int32) → (Nat → Int32) → (Nat → Int32) × (Nat → Int32)
  | 0, ho, mv => (ho, mv)
  | n + 1, ho, mv => psI st k wf to n (upd ho (fsP (hW st ho wf) k 0) to) (upd mv (fsP (hW st ho wf) k 0) (mv (fsP (hW st ho wf) k 0) + 1))
def usI (ho : Nat → Int32) (k wi : Nat) (y : Int32) : Nat → (Nat → Int32) → (Nat → Int32) → (Nat → Int32) × (Nat → Int32)
  | 0, st, ui => (st, ui)
  | n + 1, st, ui => usI ho k wi y n (upd st (fsP (hW st ho wi) k 0) 1) (upd ui (fsP (hW st ho wi) k 0) y)
def skI (ho : Nat → Int32) (k wi : Nat) : Nat → (Nat → Int32) → (Nat → Int32)
  | 0, st => st
  | n + 1, st => skI ho k wi n (upd st (fsP (hW st ho wi) k 0) 2)
theorem psI_s {st : Nat → Int32} {k wf n i : Nat} {to : Int32} {ho mv : Nat → Int32} (h : i < n) : psI st k wf to (n - i) ho mv = psI st k wf to (n - (i + 1)) (upd ho (fsP (hW st ho wf) k 0) to) (upd mv (fsP (hW st ho wf) k 0) (mv (fsP (hW st ho wf) k 0) + 1)) := by
  obtain ⟨e, h2⟩ : ∃ e, n - i = e + 1 := ⟨n - i - 1, by omega⟩
  rw [h2, show n - (i + 1) = e by omega]
  rfl
theorem usI_s {ho : Nat → Int32} {k wi n i : Nat} {y : Int32} {st ui : Nat → Int32} (h : i < n) : usI ho k wi y (n - i) st ui = usI ho k wi y (n - (i + 1)) (upd st (fsP (hW st ho wi) k 0) 1) (upd ui (fsP (hW st ho wi) k 0) y) := by
  obtain ⟨e, h2⟩ : ∃ e, n - i = e + 1 := ⟨n - i - 1, by omega⟩
  rw [h2, show n - (i + 1) = e by omega]
  rfl
theorem skI_s {ho : Nat → Int32} {k wi n i : Nat} {st : Nat → Int32} (h : i < n) : skI ho k wi (n - i) st = skI ho k wi (n - (i + 1)) (upd st (fsP (hW st ho wi) k 0) 2) := by
  obtain ⟨e, h2⟩ : ∃ e, n - i = e + 1 := ⟨n - i - 1, by omega⟩
  rw [h2, show n - (i + 1) = e by omega]
  rfl
theorem hW_off {st st2 ho ho2 : Nat → Int32} {wi j : Nat} (h1 : st2 j = st j) (h2 : ho2 j = ho j) : hW st2 ho2 wi j = hW st ho wi j := by unfold hW; rw [h1, h2]
/-- a permit goes over: counts -/
theorem cnt_pass {st ho : Nat → Int32} {k wf wt p : Nat} {to : Int32} (hp : p < k) (hP : hW st ho wf p = true) (hto : to + 1 = nI wt) (hne : wf ≠ wt) (hf : wf < 11) (ht : wt < 11) (wi : Nat) (hwi : wi < 11) :
    cntP (hW st (upd ho p to) wi) k + (if wi = wf then 1 else 0) = cntP (hW st ho wi) k + (if wi = wt then 1 else 0) := by
  have hs := of_decide_eq_true hP
  have off : ∀ j, j ≠ p → hW st (upd ho p to) wi j = hW st ho wi j := fun j hj => hW_off rfl (pk_un hj)
  have at1 : hW st (upd ho p to) wi p = decide (wi = wt) := by
    unfold hW
    rw [pk_us, hto]
    exact decide_eq_decide.mpr ⟨fun q => ((nI_eq (by omega) (by omega)).mp q.2).symm, fun q => ⟨hs.1, by rw [q]⟩⟩
  have at0 : hW st ho wi p = decide (wi = wf) := by
    unfold hW
    rw [hs.2]
    exact decide_eq_decide.mpr ⟨fun q => ((nI_eq (by omega) (by omega)).mp q.2).symm, fun q => ⟨hs.1, by rw [q]⟩⟩
  by_cases e1 : wi = wf
  · have e2 : wi ≠ wt := fun q => hne (e1.symm.trans q)
    rw [if_pos e1, if_neg e2]
    exact cntP_drop hp off (by rw [at0]; exact decide_eq_true e1) (by rw [at1]; exact decide_eq_false e2)
  · by_cases e2 : wi = wt
    · rw [if_neg e1, if_pos e2]
      exact (cntP_drop hp (fun j hj => (off j hj).symm) (by rw [at1]; exact decide_eq_true e2) (by rw [at0]; exact decide_eq_false e1)).symm
    · rw [if_neg e1, if_neg e2]
      refine congrArg (· + 0) (cntP_congr (fun j _ => ?_))
      by_cases q : j = p
      · rw [q, at1, at0, decide_eq_false e1, decide_eq_false e2]
      · exact off j q
/-- a permit is no longer held: counts -/
theorem cnt_gone {st ho : Nat → Int32} {k wf p : Nat} {x : Int32} (hp : p < k) (hP : hW st ho wf p = true) (hx : ¬ x = 0) (hf : wf < 11) (wi : Nat) (hwi : wi < 11) :
    cntP (hW (upd st p x) ho wi) k + (if wi = wf then 1 else 0) = cntP (hW st ho wi) k := by
  have hs := of_decide_eq_true hP
  have off : ∀ j, j ≠ p → hW (upd st p x) ho wi j = hW st ho wi j := fun j hj => hW_off (pk_un hj) rfl
  have at1 : hW (upd st p x) ho wi p = false := hW_f1 (by rw [pk_us]; exact hx)
  have at0 : hW st ho wi p = decide (wi = wf) := by
    unfold hW
    rw [hs.2]
    exact decide_eq_decide.mpr ⟨fun q => ((nI_eq (by omega) (by omega)).mp q.2).symm, fun q => ⟨hs.1, by rw [q]⟩⟩
  by_cases e1 : wi = wf
  · rw [if_pos e1]
    exact cntP_drop hp off (by rw [at0]; exact decide_eq_true e1) at1
  · rw [if_neg e1]
    refine cntP_congr (fun j _ => ?_)
    by_cases q : j = p
    · rw [q, at1, at0, decide_eq_false e1]
    · exact off j q
theorem sOk_gone {st ho sr : Nat → Int32} {k p : Nat} {x : Int32} (h : sOk st ho sr k) (hx : ¬ x = 0) : sOk (upd st p x) ho sr k := by
  intro wi hwi
  obtain ⟨s, h1, h2, h3⟩ := h wi hwi
  refine ⟨s, h1, h2, fun j hj => ?_⟩
  by_cases q : j = p
  · rw [q]; exact hW_f1 (by rw [pk_us]; exact hx)
  · rw [hW_off (pk_un q) rfl]; exact h3 j hj
theorem sOk_pass {st ho sr : Nat → Int32} {k p wt : Nat} {to : Int32} (h : sOk st ho sr k) (hk : k < 2 ^ 31) (hp : p ≤ k) (ht : wt < 11) (hto : to + 1 = nI wt) : sOk st (upd ho p to) (upd sr wt (if nI p < sr wt then nI p else sr wt)) k := by
  intro wi hwi
  by_cases e : wi = wt
  · subst e
    obtain ⟨s, h1, h2, h3⟩ := h wi hwi
    rw [pk_us, h2]
    have off : ∀ j, j < p → j < s → hW st (upd ho p to) wi j = false := fun j a b => by rw [hW_off rfl (pk_un (by omega))]; exact h3 j b
    by_cases q : p < s
    · rw [if_pos (nI_lt q (by omega))]
      exact ⟨p, hp, rfl, fun j hj => off j hj (by omega)⟩
    · rw [if_neg (nI_nlt (by omega) (by omega))]
      exact ⟨s, h1, rfl, fun j hj => off j (by omega) hj⟩
  · obtain ⟨s, h1, h2, h3⟩ := h wi hwi
    rw [pk_un e]
    refine ⟨s, h1, h2, fun j hj => ?_⟩
    by_cases q : j = p
    · rw [q]
      exact decide_eq_false (fun z => e (by
        have := z.2
        rw [pk_us, hto] at this
        exact ((nI_eq (by omega) (by omega)).mp this).symm))
    · rw [hW_off rfl (pk_un q)]; exact h3 j hj
theorem i_negadd (a b : Int32) : a + b + -b = a := by rw [← Int32.sub_eq_add_neg, Int32.add_sub_cancel]
theorem nI_sub' {a b c : Nat} (h : c + b = a) : nI a + -nI b = nI c := by rw [← h, ← nI_add, i_negadd]

def pmF (a b c d e f t : Int32) : Int32 := if t = 0 then a else if t = 1 then b else if t = 2 then c else if t = 3 then d else if t = 4 then e else if t = 5 then f else -2147483648
theorem pmF_else {a b c d e f t : Int32} (h0 : ¬ t = 0) (h1 : ¬ t = 1) (h2 : ¬ t = 2) (h3 : ¬ t = 3) (h4 : ¬ t = 4) (h5 : ¬ t = 5) : pmF a b c d e f t = -2147483648 := by
  unfold pmF; rw [if_neg h0, if_neg h1, if_neg h2, if_neg h3, if_neg h4, if_neg h5]

theorem pOk_pass {st ho ho2 hd sr sr2 : Nat → Int32} {k wf wt n : Nat} (h : pOk st ho hd sr k) (hs : sOk st ho2 sr2 k) (hc : ∀ wi, wi < 11 → cntP (hW st ho2 wi) k + (if wi = wf then n else 0) = cntP (hW st ho wi) k + (if wi = wt then n else 0)) (hne : wf ≠ wt) (hn : n ≤ cntP (hW st ho wf) k) : pOk st ho2 (upd (upd hd wf (hd wf + -nI n)) wt (hd wt + nI n)) sr2 k := by
  intro wi hwi
  refine ⟨?_, hs wi hwi⟩
  have a := hc wi hwi
  by_cases e1 : wi = wt
  · subst e1
    rw [if_neg (Ne.symm hne), if_pos rfl] at a
    rw [pk_us, (h wi hwi).1, nI_add]
    exact congrArg nI a.symm
  · rw [pk_un e1]
    by_cases e2 : wi = wf
    · subst e2
      rw [if_pos rfl, if_neg e1] at a
      rw [pk_us, (h wi hwi).1]
      exact nI_sub' a
    · rw [if_neg e2, if_neg e1] at a
      rw [pk_un e2, (h wi hwi).1]
      exact congrArg nI a.symm
theorem pOk_gone {st st2 ho hd sr sr2 : Nat → Int32} {k wf n : Nat} (h : pOk st ho hd sr k) (hs : sOk st2 ho sr2 k) (hc : ∀ wi, wi < 11 → cntP (hW st2 ho wi) k + (if wi = wf then n else 0) = cntP (hW st ho wi) k) : pOk st2 ho (upd hd wf (hd wf + -nI n)) sr2 k := by
  intro wi hwi
  refine ⟨?_, hs wi hwi⟩
  have a := hc wi hwi
  by_cases e2 : wi = wf
  · subst e2
    rw [if_pos rfl] at a
    rw [pk_us, (h wi hwi).1]
    exact nI_sub' a
  · rw [if_neg e2] at a
    rw [pk_un e2, (h wi hwi).1]
    exact congrArg nI a.symm
set_option maxHeartbeats 4000000 in
set_option maxRecDepth 100000 in
theorem k_X5_hasRoomFor (l : Launch) (D : va_G) (cI cZ : ClassId) (h : Nat) (r0 : Nat) (r1 : Nat) (r2 : Nat) (r3 : Nat) (r4 : Nat) (r5 : Nat) (r6 : Nat) (r7 : Nat) (N : Nat) (k : Nat) (us : Int32) (ca : Int32) (n : Nat) (hk : k ≤ 4000) (hn : n ≤ 400) : fx_CI l D cI cZ yX5_hasRoomFor wsX5_hasRoomFor ({ frames := 0, cells := 0, slots := 0, locals := 0 }) [.ref h, .int (nI n)] [(h, .inr (5, [.ref r0, .ref r1, .ref r2, .ref r3, .ref r4, .ref r5, .ref r6, .ref r7, .int (nI N), .int (nI k), .int us, .int ca]))] (fun (u : Unit) => [(h, .inr (5, [.ref r0, .ref r1, .ref r2, .ref r3, .ref r4, .ref r5, .ref r6, .ref r7, .int (nI N), .int (nI k), .int us, .int ca]))]) (fun (r : Int32) (u : Unit) => ((k + n ≤ 4000) ∧ r = 1) ∨ ((¬ k + n ≤ 4000) ∧ r = 0)) := by
  refine fx_CI.of (ws' := (wsX5_hasRoomFor).tail) cX5_hasRoomFor 2 (by decide) rfl (Nat.le_of_ble_eq_true rfl) ?_
  intro zp ze zs zm za zb zt zc zA ls zQ hQ hC hr hlk hA hH hl
  have zx := hC.1.1
  have zy := hC.1.2.1
  have hl : lv_has ls 2 [(0, .ref h), (1, .int (nI n))] := hl
  refine lv_iload_n zx zy dX5_hasRoomFor_0 rfl (lv_at hl 1 rfl) ?_
  refine lv_sipush (v := 4000) zx zy dX5_hasRoomFor_1 (by decide) ?_
  refine lv_aload_n zx zy dX5_hasRoomFor_4 rfl (lv_at hl 0 rfl) ?_
  refine fx_get (C := RX5) (T := TX5) (N := 12) hC (fun _ h => List.mem_cons_of_mem _ (List.mem_append_right _ h)) hH 0 rfl rfl 9 (by decide) (by decide +kernel) rfl dX5_hasRoomFor_5 ?_
  refine lv_isub zx zy dX5_hasRoomFor_8 ?_
  refine lv_topi (fun v1 ev1 => ?_)
  obtain rfl : v1 = nI (4000 - k) := ev1.trans (pk_sub (a := 4000) hk)
  refine lv_icmp_gt (tgt := 16) zx zy dX5_hasRoomFor_9 (by decide) (fun c9 => ?_) (fun c9 => ?_)
  · skip
    refine lv_iconst (v := 0) zx zy dX5_hasRoomFor_16 (by decide) ?_
    exact fx_iret (v := 0) hQ hC hr hlk hH dX5_hasRoomFor_17 rfl (Nat.le_of_ble_eq_true rfl) (Nat.le_of_ble_eq_true rfl) (()) rfl (by first | exact Or.inl ⟨by have := Nat.le_of_not_lt (fun h => c9 (nI_lt (a := 4000 - k) (b := n) h (by omega))); omega, rfl⟩ | exact Or.inr ⟨by have := (nI_ltI (a := 4000 - k) (b := n) (by omega) (by omega)).mp c9; omega, rfl⟩)
  · skip
    refine lv_iconst (v := 1) zx zy dX5_hasRoomFor_12 (by decide) ?_
    refine lv_goto (tgt := 17) zx zy dX5_hasRoomFor_13 (by decide) ?_
    exact fx_iret (v := 1) hQ hC hr hlk hH dX5_hasRoomFor_17 rfl (Nat.le_of_ble_eq_true rfl) (Nat.le_of_ble_eq_true rfl) (()) rfl (by first | exact Or.inl ⟨by have := Nat.le_of_not_lt (fun h => c9 (nI_lt (a := 4000 - k) (b := n) h (by omega))); omega, rfl⟩ | exact Or.inr ⟨by have := (nI_ltI (a := 4000 - k) (b := n) (by omega) (by omega)).mp c9; omega, rfl⟩)
set_option maxHeartbeats 4000000 in
set_option maxRecDepth 100000 in
theorem k_X5_isHeld (l : Launch) (D : va_G) (cI cZ : ClassId) (h : Nat) (r0 : Nat) (r1 : Nat) (r2 : Nat) (r3 : Nat) (r4 : Nat) (r5 : Nat) (r6 : Nat) (r7 : Nat) (N : Nat) (k : Nat) (us : Int32) (ca : Int32) (a0 : Nat) (f0 : Nat → Int32) (i : Nat) (hi : i < N) (hN : N ≤ 4000) : fx_CI l D cI cZ yX5_isHeld wsX5_isHeld ({ frames := 1, cells := 0, slots := 0, locals := 21 }) [.ref h, .int (nI i)] [(h, .inr (5, [.ref r0, .ref r1, .ref r2, .ref r3, .ref r4, .ref r5, .ref r6, .ref r7, .int (nI N), .int (nI k), .int us, .int ca])), (r0, .inr (6, [.ref a0])), (a0, .inl (cI, N, .inl f0))] (fun (u : Unit) => [(h, .inr (5, [.ref r0, .ref r1, .ref r2, .ref r3, .ref r4, .ref r5, .ref r6, .ref r7, .int (nI N), .int (nI k), .int us, .int ca])), (r0, .inr (6, [.ref a0])), (a0, .inl (cI, N, .inl f0))]) (fun (r : Int32) (u : Unit) => ((f0 i = 0) ∧ r = 1) ∨ ((¬ f0 i = 0) ∧ r = 0)) := by
  refine fx_CI.of (ws' := (wsX5_isHeld).tail) cX5_isHeld 2 (by decide) rfl (Nat.le_of_ble_eq_true rfl) ?_
  intro zp ze zs zm za zb zt zc zA ls zQ hQ hC hr hlk hA hH hl
  have zx := hC.1.1
  have zy := hC.1.2.1
  have hl : lv_has ls 2 [(0, .ref h), (1, .int (nI i))] := hl
  refine lv_aload_n zx zy dX5_isHeld_0 rfl (lv_at hl 0 rfl) ?_
  refine fx_get (C := RX5) (T := TX5) (N := 12) hC (fun _ h => List.mem_cons_of_mem _ (List.mem_append_left _ (List.mem_append_right _ h))) hH 0 rfl rfl 0 (by decide) (by decide +kernel) rfl dX5_isHeld_1 ?_
  refine lv_iload_n zx zy dX5_isHeld_4 rfl (lv_at hl 1 rfl) ?_
  refine fx_cVi (n := 1) (As := [.int (nI i)]) (b := r0) (rest := []) (fun (u : Unit) => [(h, .inr (5, [.ref r0, .ref r1, .ref r2, .ref r3, .ref r4, .ref r5, .ref r6, .ref r7, .int (nI N), .int (nI k), .int us, .int ca])), (r0, .inr (6, [.ref a0])), (a0, .inl (cI, N, .inl f0))]) hC hA hH (k_X6_at l D cI cZ r0 a0 N f0 (nI i) (by first | assumption | omega)) [1, 2] [0] [0, 1, 2] [(h, .inr (5, [.ref r0, .ref r1, .ref r2, .ref r3, .ref r4, .ref r5, .ref r6, .ref r7, .int (nI N), .int (nI k), .int us, .int ca]))] rfl rfl (by decide) (by decide) (fun _ => rfl) rfl gX5_isHeld_X6_at (by decide +kernel) ⟨Nat.le_of_ble_eq_true rfl, Nat.le_of_ble_eq_true rfl⟩ 0 rfl rfl rfl rfl rfl hl.1 (Nat.le_of_ble_eq_true rfl) ⟨Nat.le_of_ble_eq_true rfl, Nat.le_of_ble_eq_true rfl⟩ dX5_isHeld_5 (fun r1 u H locs hw5 hH => ?_)
  obtain rfl : r1 = rAt N f0 (nI i) := hw5
  have hH := (hH : fx_H zA zs.heap H locs D [(h, .inr (5, [.ref r0, .ref r1, .ref r2, .ref r3, .ref r4, .ref r5, .ref r6, .ref r7, .int (nI N), .int (nI k), .int us, .int ca])), (r0, .inr (6, [.ref a0])), (a0, .inl (cI, N, .inl f0))])
  refine lv_topi (fun v2 ev2 => ?_)
  obtain rfl : v2 = f0 i := ev2.trans (rAt_nI hi (by omega))
  refine lv_if_ne (tgt := 15) zx zy dX5_isHeld_8 (by decide) (fun c8 => ?_) (fun c8 => ?_)
  · skip
    refine lv_iconst (v := 0) zx zy dX5_isHeld_15 (by decide) ?_
    exact fx_iret (v := 0) hQ hC hr hlk hH dX5_isHeld_16 rfl (Nat.le_of_ble_eq_true rfl) (Nat.le_of_ble_eq_true rfl) (()) rfl (by first | exact Or.inl ⟨c8, rfl⟩ | exact Or.inr ⟨c8, rfl⟩)
  · skip
    refine lv_iconst (v := 1) zx zy dX5_isHeld_11 (by decide) ?_
    refine lv_goto (tgt := 16) zx zy dX5_isHeld_12 (by decide) ?_
    exact fx_iret (v := 1) hQ hC hr hlk hH dX5_isHeld_16 rfl (Nat.le_of_ble_eq_true rfl) (Nat.le_of_ble_eq_true rfl) (()) rfl (by first | exact Or.inl ⟨c8, rfl⟩ | exact Or.inr ⟨c8, rfl⟩)
set_option maxHeartbeats 4000000 in
set_option maxRecDepth 100000 in
theorem k_X5_holderOf (l : Launch) (D : va_G) (cI cZ : ClassId) (h : Nat) (r0 : Nat) (r1 : Nat) (r2 : Nat) (r3 : Nat) (r4 : Nat) (r5 : Nat) (r6 : Nat) (r7 : Nat) (N : Nat) (k : Nat) (us : Int32) (ca : Int32) (a1 : Nat) (f1 : Nat → Int32) (i : Nat) (hi : i < N) (hN : N ≤ 4000) : fx_CI l D cI cZ yX5_holderOf wsX5_holderOf ({ frames := 1, cells := 0, slots := 0, locals := 21 }) [.ref h, .int (nI i)] [(h, .inr (5, [.ref r0, .ref r1, .ref r2, .ref r3, .ref r4, .ref r5, .ref r6, .ref r7, .int (nI N), .int (nI k), .int us, .int ca])), (r1, .inr (6, [.ref a1])), (a1, .inl (cI, N, .inl f1))] (fun (u : Unit) => [(h, .inr (5, [.ref r0, .ref r1, .ref r2, .ref r3, .ref r4, .ref r5, .ref r6, .ref r7, .int (nI N), .int (nI k), .int us, .int ca])), (r1, .inr (6, [.ref a1])), (a1, .inl (cI, N, .inl f1))]) (fun (r : Int32) (u : Unit) => r = f1 i) := by
  refine fx_CI.of (ws' := (wsX5_holderOf).tail) cX5_holderOf 2 (by decide) rfl (Nat.le_of_ble_eq_true rfl) ?_
  intro zp ze zs zm za zb zt zc zA ls zQ hQ hC hr hlk hA hH hl
  have zx := hC.1.1
  have zy := hC.1.2.1
  have hl : lv_has ls 2 [(0, .ref h), (1, .int (nI i))] := hl
  refine lv_aload_n zx zy dX5_holderOf_0 rfl (lv_at hl 0 rfl) ?_
  refine fx_get (C := RX5) (T := TX5) (N := 12) hC (fun _ h => List.mem_cons_of_mem _ (List.mem_append_left _ (List.mem_append_right _ h))) hH 0 rfl rfl 1 (by decide) (by decide +kernel) rfl dX5_holderOf_1 ?_
  refine lv_iload_n zx zy dX5_holderOf_4 rfl (lv_at hl 1 rfl) ?_
  refine fx_cVi (n := 1) (As := [.int (nI i)]) (b := r1) (rest := []) (fun (u : Unit) => [(h, .inr (5, [.ref r0, .ref r1, .ref r2, .ref r3, .ref r4, .ref r5, .ref r6, .ref r7, .int (nI N), .int (nI k), .int us, .int ca])), (r1, .inr (6, [.ref a1])), (a1, .inl (cI, N, .inl f1))]) hC hA hH (k_X6_at l D cI cZ r1 a1 N f1 (nI i) (by first | assumption | omega)) [1, 2] [0] [0, 1, 2] [(h, .inr (5, [.ref r0, .ref r1, .ref r2, .ref r3, .ref r4, .ref r5, .ref r6, .ref r7, .int (nI N), .int (nI k), .int us, .int ca]))] rfl rfl (by decide) (by decide) (fun _ => rfl) rfl gX5_holderOf_X6_at (by decide +kernel) ⟨Nat.le_of_ble_eq_true rfl, Nat.le_of_ble_eq_true rfl⟩ 0 rfl rfl rfl rfl rfl hl.1 (Nat.le_of_ble_eq_true rfl) ⟨Nat.le_of_ble_eq_true rfl, Nat.le_of_ble_eq_true rfl⟩ dX5_holderOf_5 (fun r1 u H locs hw5 hH => ?_)
  obtain rfl : r1 = rAt N f1 (nI i) := hw5
  have hH := (hH : fx_H zA zs.heap H locs D [(h, .inr (5, [.ref r0, .ref r1, .ref r2, .ref r3, .ref r4, .ref r5, .ref r6, .ref r7, .int (nI N), .int (nI k), .int us, .int ca])), (r1, .inr (6, [.ref a1])), (a1, .inl (cI, N, .inl f1))])
  refine lv_topi (fun v2 ev2 => ?_)
  obtain rfl : v2 = f1 i := ev2.trans (rAt_nI hi (by omega))
  exact fx_iret (v := f1 i) hQ hC hr hlk hH dX5_holderOf_8 rfl (Nat.le_of_ble_eq_true rfl) (Nat.le_of_ble_eq_true rfl) (()) rfl (rfl)
set_option maxHeartbeats 4000000 in
set_option maxRecDepth 100000 in
theorem k_X5_projectOf (l : Launch) (D : va_G) (cI cZ : ClassId) (h : Nat) (r0 : Nat) (r1 : Nat) (r2 : Nat) (r3 : Nat) (r4 : Nat) (r5 : Nat) (r6 : Nat) (r7 : Nat) (N : Nat) (k : Nat) (us : Int32) (ca : Int32) (a4 : Nat) (f4 : Nat → Int32) (i : Nat) (hi : i < N) (hN : N ≤ 4000) : fx_CI l D cI cZ yX5_projectOf wsX5_projectOf ({ frames := 1, cells := 0, slots := 0, locals := 21 }) [.ref h, .int (nI i)] [(h, .inr (5, [.ref r0, .ref r1, .ref r2, .ref r3, .ref r4, .ref r5, .ref r6, .ref r7, .int (nI N), .int (nI k), .int us, .int ca])), (r4, .inr (6, [.ref a4])), (a4, .inl (cI, N, .inl f4))] (fun (u : Unit) => [(h, .inr (5, [.ref r0, .ref r1, .ref r2, .ref r3, .ref r4, .ref r5, .ref r6, .ref r7, .int (nI N), .int (nI k), .int us, .int ca])), (r4, .inr (6, [.ref a4])), (a4, .inl (cI, N, .inl f4))]) (fun (r : Int32) (u : Unit) => r = f4 i) := by
  refine fx_CI.of (ws' := (wsX5_projectOf).tail) cX5_projectOf 2 (by decide) rfl (Nat.le_of_ble_eq_true rfl) ?_
  intro zp ze zs zm za zb zt zc zA ls zQ hQ hC hr hlk hA hH hl
  have zx := hC.1.1
  have zy := hC.1.2.1
  have hl : lv_has ls 2 [(0, .ref h), (1, .int (nI i))] := hl
  refine lv_aload_n zx zy dX5_projectOf_0 rfl (lv_at hl 0 rfl) ?_
  refine fx_get (C := RX5) (T := TX5) (N := 12) hC (fun _ h => List.mem_cons_of_mem _ (List.mem_append_left _ (List.mem_append_right _ h))) hH 0 rfl rfl 4 (by decide) (by decide +kernel) rfl dX5_projectOf_1 ?_
  refine lv_iload_n zx zy dX5_projectOf_4 rfl (lv_at hl 1 rfl) ?_
  refine fx_cVi (n := 1) (As := [.int (nI i)]) (b := r4) (rest := []) (fun (u : Unit) => [(h, .inr (5, [.ref r0, .ref r1, .ref r2, .ref r3, .ref r4, .ref r5, .ref r6, .ref r7, .int (nI N), .int (nI k), .int us, .int ca])), (r4, .inr (6, [.ref a4])), (a4, .inl (cI, N, .inl f4))]) hC hA hH (k_X6_at l D cI cZ r4 a4 N f4 (nI i) (by first | assumption | omega)) [1, 2] [0] [0, 1, 2] [(h, .inr (5, [.ref r0, .ref r1, .ref r2, .ref r3, .ref r4, .ref r5, .ref r6, .ref r7, .int (nI N), .int (nI k), .int us, .int ca]))] rfl rfl (by decide) (by decide) (fun _ => rfl) rfl gX5_projectOf_X6_at (by decide +kernel) ⟨Nat.le_of_ble_eq_true rfl, Nat.le_of_ble_eq_true rfl⟩ 0 rfl rfl rfl rfl rfl hl.1 (Nat.le_of_ble_eq_true rfl) ⟨Nat.le_of_ble_eq_true rfl, Nat.le_of_ble_eq_true rfl⟩ dX5_projectOf_5 (fun r1 u H locs hw5 hH => ?_)
  obtain rfl : r1 = rAt N f4 (nI i) := hw5
  have hH := (hH : fx_H zA zs.heap H locs D [(h, .inr (5, [.ref r0, .ref r1, .ref r2, .ref r3, .ref r4, .ref r5, .ref r6, .ref r7, .int (nI N), .int (nI k), .int us, .int ca])), (r4, .inr (6, [.ref a4])), (a4, .inl (cI, N, .inl f4))])
  refine lv_topi (fun v2 ev2 => ?_)
  obtain rfl : v2 = f4 i := ev2.trans (rAt_nI hi (by omega))
  exact fx_iret (v := f4 i) hQ hC hr hlk hH dX5_projectOf_8 rfl (Nat.le_of_ble_eq_true rfl) (Nat.le_of_ble_eq_true rfl) (()) rfl (rfl)
set_option maxHeartbeats 4000000 in
set_option maxRecDepth 100000 in
theorem k_X5_heldBy (l : Launch) (D : va_G) (cI cZ : ClassId) (h : Nat) (r0 : Nat) (r1 : Nat) (r2 : Nat) (r3 : Nat) (r4 : Nat) (r5 : Nat) (r6 : Nat) (r7 : Nat) (N : Nat) (k : Nat) (us : Int32) (ca : Int32) (a6 : Nat) (f6 : Nat → Int32) (who : Int32) (wi : Nat) (hwi : who + 1 = nI wi) (hw11 : wi < 11) : fx_CI l D cI cZ yX5_heldBy wsX5_heldBy ({ frames := 1, cells := 0, slots := 0, locals := 21 }) [.ref h, .int who] [(h, .inr (5, [.ref r0, .ref r1, .ref r2, .ref r3, .ref r4, .ref r5, .ref r6, .ref r7, .int (nI N), .int (nI k), .int us, .int ca])), (r6, .inr (6, [.ref a6])), (a6, .inl (cI, 11, .inl f6))] (fun (u : Unit) => [(h, .inr (5, [.ref r0, .ref r1, .ref r2, .ref r3, .ref r4, .ref r5, .ref r6, .ref r7, .int (nI N), .int (nI k), .int us, .int ca])), (r6, .inr (6, [.ref a6])), (a6, .inl (cI, 11, .inl f6))]) (fun (r : Int32) (u : Unit) => r = f6 wi) := by
  refine fx_CI.of (ws' := (wsX5_heldBy).tail) cX5_heldBy 2 (by decide) rfl (Nat.le_of_ble_eq_true rfl) ?_
  intro zp ze zs zm za zb zt zc zA ls zQ hQ hC hr hlk hA hH hl
  have zx := hC.1.1
  have zy := hC.1.2.1
  have hl : lv_has ls 2 [(0, .ref h), (1, .int who)] := hl
  refine lv_aload_n zx zy dX5_heldBy_0 rfl (lv_at hl 0 rfl) ?_
  refine fx_get (C := RX5) (T := TX5) (N := 12) hC (fun _ h => List.mem_cons_of_mem _ (List.mem_append_left _ (List.mem_append_right _ h))) hH 0 rfl rfl 6 (by decide) (by decide +kernel) rfl dX5_heldBy_1 ?_
  refine lv_iload_n zx zy dX5_heldBy_4 rfl (lv_at hl 1 rfl) ?_
  refine lv_iconst (v := 1) zx zy dX5_heldBy_5 (by decide) ?_
  refine lv_iadd zx zy dX5_heldBy_6 ?_
  refine lv_topi (fun v1 ev1 => ?_)
  obtain rfl : v1 = nI wi := ev1.trans (hwi)
  refine fx_cVi (n := 1) (As := [.int (nI wi)]) (b := r6) (rest := []) (fun (u : Unit) => [(h, .inr (5, [.ref r0, .ref r1, .ref r2, .ref r3, .ref r4, .ref r5, .ref r6, .ref r7, .int (nI N), .int (nI k), .int us, .int ca])), (r6, .inr (6, [.ref a6])), (a6, .inl (cI, 11, .inl f6))]) hC hA hH (k_X6_at l D cI cZ r6 a6 11 f6 (nI wi) (by first | assumption | omega)) [1, 2] [0] [0, 1, 2] [(h, .inr (5, [.ref r0, .ref r1, .ref r2, .ref r3, .ref r4, .ref r5, .ref r6, .ref r7, .int (nI N), .int (nI k), .int us, .int ca]))] rfl rfl (by decide) (by decide) (fun _ => rfl) rfl gX5_heldBy_X6_at (by decide +kernel) ⟨Nat.le_of_ble_eq_true rfl, Nat.le_of_ble_eq_true rfl⟩ 0 rfl rfl rfl rfl rfl hl.1 (Nat.le_of_ble_eq_true rfl) ⟨Nat.le_of_ble_eq_true rfl, Nat.le_of_ble_eq_true rfl⟩ dX5_heldBy_7 (fun r2 u H locs hw7 hH => ?_)
  obtain rfl : r2 = rAt 11 f6 (nI wi) := hw7
  have hH := (hH : fx_H zA zs.heap H locs D [(h, .inr (5, [.ref r0, .ref r1, .ref r2, .ref r3, .ref r4, .ref r5, .ref r6, .ref r7, .int (nI N), .int (nI k), .int us, .int ca])), (r6, .inr (6, [.ref a6])), (a6, .inl (cI, 11, .inl f6))])
  refine lv_topi (fun v3 ev3 => ?_)
  obtain rfl : v3 = f6 wi := ev3.trans (rAt_nI hw11 (by omega))
  exact fx_iret (v := f6 wi) hQ hC hr hlk hH dX5_heldBy_10 rfl (Nat.le_of_ble_eq_true rfl) (Nat.le_of_ble_eq_true rfl) (()) rfl (rfl)
set_option maxHeartbeats 4000000 in
set_option maxRecDepth 100000 in
theorem k_X5_heldByWorks (l : Launch) (D : va_G) (cI cZ : ClassId) (h : Nat) (r0 : Nat) (r1 : Nat) (r2 : Nat) (r3 : Nat) (r4 : Nat) (r5 : Nat) (r6 : Nat) (r7 : Nat) (N : Nat) (k : Nat) (us : Int32) (ca : Int32) (a6 : Nat) (f6 : Nat → Int32) : fx_CI l D cI cZ yX5_heldByWorks wsX5_heldByWorks ({ frames := 2, cells := 0, slots := 0, locals := 42 }) [.ref h] [(h, .inr (5, [.ref r0, .ref r1, .ref r2, .ref r3, .ref r4, .ref r5, .ref r6, .ref r7, .int (nI N), .int (nI k), .int us, .int ca])), (r6, .inr (6, [.ref a6])), (a6, .inl (cI, 11, .inl f6))] (fun (u : Unit) => [(h, .inr (5, [.ref r0, .ref r1, .ref r2, .ref r3, .ref r4, .ref r5, .ref r6, .ref r7, .int (nI N), .int (nI k), .int us, .int ca])), (r6, .inr (6, [.ref a6])), (a6, .inl (cI, 11, .inl f6))]) (fun (r : Int32) (u : Unit) => r = nI k - us - ca - f6 0) := by
  refine fx_CI.of (ws' := (wsX5_heldByWorks).tail) cX5_heldByWorks 1 (by decide) rfl (Nat.le_of_ble_eq_true rfl) ?_
  intro zp ze zs zm za zb zt zc zA ls zQ hQ hC hr hlk hA hH hl
  have zx := hC.1.1
  have zy := hC.1.2.1
  have hl : lv_has ls 1 [(0, .ref h)] := hl
  refine lv_aload_n zx zy dX5_heldByWorks_0 rfl (lv_at hl 0 rfl) ?_
  refine fx_get (C := RX5) (T := TX5) (N := 12) hC (fun _ h => List.mem_cons_of_mem _ (List.mem_append_left _ (List.mem_append_right _ h))) hH 0 rfl rfl 9 (by decide) (by decide +kernel) rfl dX5_heldByWorks_1 ?_
  refine lv_aload_n zx zy dX5_heldByWorks_4 rfl (lv_at hl 0 rfl) ?_
  refine fx_get (C := RX5) (T := TX5) (N := 12) hC (fun _ h => List.mem_cons_of_mem _ (List.mem_append_left _ (List.mem_append_right _ h))) hH 0 rfl rfl 10 (by decide) (by decide +kernel) rfl dX5_heldByWorks_5 ?_
  refine lv_isub zx zy dX5_heldByWorks_8 ?_
  refine lv_aload_n zx zy dX5_heldByWorks_9 rfl (lv_at hl 0 rfl) ?_
  refine fx_get (C := RX5) (T := TX5) (N := 12) hC (fun _ h => List.mem_cons_of_mem _ (List.mem_append_left _ (List.mem_append_right _ h))) hH 0 rfl rfl 11 (by decide) (by decide +kernel) rfl dX5_heldByWorks_10 ?_
  refine lv_isub zx zy dX5_heldByWorks_13 ?_
  refine lv_aload_n zx zy dX5_heldByWorks_14 rfl (lv_at hl 0 rfl) ?_
  refine lv_iconst (v := (-1)) zx zy dX5_heldByWorks_15 (by decide) ?_
  refine fx_cVi (n := 1) (As := [.int (-1)]) (b := h) (rest := [.int (((nI k) - us) - ca)]) (fun (u : Unit) => [(h, .inr (5, [.ref r0, .ref r1, .ref r2, .ref r3, .ref r4, .ref r5, .ref r6, .ref r7, .int (nI N), .int (nI k), .int us, .int ca])), (r6, .inr (6, [.ref a6])), (a6, .inl (cI, 11, .inl f6))]) hC hA hH (k_X5_heldBy l D cI cZ h r0 r1 r2 r3 r4 r5 r6 r7 N k us ca a6 f6 (-1) 0 (by decide) (by omega)) [0, 1, 2] [] [0, 1, 2] [] rfl rfl (by decide) (by decide) (fun _ => rfl) rfl gX5_heldByWorks_X5_heldBy (by decide +kernel) ⟨Nat.le_of_ble_eq_true rfl, Nat.le_of_ble_eq_true rfl⟩ 0 rfl rfl rfl rfl rfl hl.1 (Nat.le_of_ble_eq_true rfl) ⟨Nat.le_of_ble_eq_true rfl, Nat.le_of_ble_eq_true rfl⟩ dX5_heldByWorks_16 (fun r1 u H locs hw16 hH => ?_)
  obtain rfl : r1 = f6 0 := hw16
  have hH := (hH : fx_H zA zs.heap H locs D [(h, .inr (5, [.ref r0, .ref r1, .ref r2, .ref r3, .ref r4, .ref r5, .ref r6, .ref r7, .int (nI N), .int (nI k), .int us, .int ca])), (r6, .inr (6, [.ref a6])), (a6, .inl (cI, 11, .inl f6))])
  refine lv_isub zx zy dX5_heldByWorks_19 ?_
  exact fx_iret (v := (((nI k) - us) - ca) - (f6 0)) hQ hC hr hlk hH dX5_heldByWorks_20 rfl (Nat.le_of_ble_eq_true rfl) (Nat.le_of_ble_eq_true rfl) (()) rfl (rfl)
set_option maxHeartbeats 4000000 in
set_option maxRecDepth 100000 in
theorem k_X5_cameSoFar (l : Launch) (D : va_G) (cI cZ : ClassId) (h : Nat) (r0 : Nat) (r1 : Nat) (r2 : Nat) (r3 : Nat) (r4 : Nat) (r5 : Nat) (r6 : Nat) (r7 : Nat) (N : Nat) (k : Nat) (us : Int32) (ca : Int32) : fx_CI l D cI cZ yX5_cameSoFar wsX5_cameSoFar ({ frames := 0, cells := 0, slots := 0, locals := 0 }) [.ref h] [(h, .inr (5, [.ref r0, .ref r1, .ref r2, .ref r3, .ref r4, .ref r5, .ref r6, .ref r7, .int (nI N), .int (nI k), .int us, .int ca]))] (fun (u : Unit) => [(h, .inr (5, [.ref r0, .ref r1, .ref r2, .ref r3, .ref r4, .ref r5, .ref r6, .ref r7, .int (nI N), .int (nI k), .int us, .int ca]))]) (fun (r : Int32) (u : Unit) => r = nI k) := by
  refine fx_CI.of (ws' := (wsX5_cameSoFar).tail) cX5_cameSoFar 1 (by decide) rfl (Nat.le_of_ble_eq_true rfl) ?_
  intro zp ze zs zm za zb zt zc zA ls zQ hQ hC hr hlk hA hH hl
  have zx := hC.1.1
  have zy := hC.1.2.1
  have hl : lv_has ls 1 [(0, .ref h)] := hl
  refine lv_aload_n zx zy dX5_cameSoFar_0 rfl (lv_at hl 0 rfl) ?_
  refine fx_get (C := RX5) (T := TX5) (N := 12) hC (fun _ h => List.mem_cons_of_mem _ (List.mem_append_right _ h)) hH 0 rfl rfl 9 (by decide) (by decide +kernel) rfl dX5_cameSoFar_1 ?_
  exact fx_iret (v := nI k) hQ hC hr hlk hH dX5_cameSoFar_4 rfl (Nat.le_of_ble_eq_true rfl) (Nat.le_of_ble_eq_true rfl) (()) rfl (rfl)
set_option maxHeartbeats 4000000 in
set_option maxRecDepth 100000 in
theorem k_X5_usedSoFar (l : Launch) (D : va_G) (cI cZ : ClassId) (h : Nat) (r0 : Nat) (r1 : Nat) (r2 : Nat) (r3 : Nat) (r4 : Nat) (r5 : Nat) (r6 : Nat) (r7 : Nat) (N : Nat) (k : Nat) (us : Int32) (ca : Int32) : fx_CI l D cI cZ yX5_usedSoFar wsX5_usedSoFar ({ frames := 0, cells := 0, slots := 0, locals := 0 }) [.ref h] [(h, .inr (5, [.ref r0, .ref r1, .ref r2, .ref r3, .ref r4, .ref r5, .ref r6, .ref r7, .int (nI N), .int (nI k), .int us, .int ca]))] (fun (u : Unit) => [(h, .inr (5, [.ref r0, .ref r1, .ref r2, .ref r3, .ref r4, .ref r5, .ref r6, .ref r7, .int (nI N), .int (nI k), .int us, .int ca]))]) (fun (r : Int32) (u : Unit) => r = us) := by
  refine fx_CI.of (ws' := (wsX5_usedSoFar).tail) cX5_usedSoFar 1 (by decide) rfl (Nat.le_of_ble_eq_true rfl) ?_
  intro zp ze zs zm za zb zt zc zA ls zQ hQ hC hr hlk hA hH hl
  have zx := hC.1.1
  have zy := hC.1.2.1
  have hl : lv_has ls 1 [(0, .ref h)] := hl
  refine lv_aload_n zx zy dX5_usedSoFar_0 rfl (lv_at hl 0 rfl) ?_
  refine fx_get (C := RX5) (T := TX5) (N := 12) hC (fun _ h => List.mem_cons_of_mem _ (List.mem_append_right _ h)) hH 0 rfl rfl 10 (by decide) (by decide +kernel) rfl dX5_usedSoFar_1 ?_
  exact fx_iret (v := us) hQ hC hr hlk hH dX5_usedSoFar_4 rfl (Nat.le_of_ble_eq_true rfl) (Nat.le_of_ble_eq_true rfl) (()) rfl (rfl)
set_option maxHeartbeats 4000000 in
set_option maxRecDepth 100000 in
theorem k_X5_cancelledSoFar (l : Launch) (D : va_G) (cI cZ : ClassId) (h : Nat) (r0 : Nat) (r1 : Nat) (r2 : Nat) (r3 : Nat) (r4 : Nat) (r5 : Nat) (r6 : Nat) (r7 : Nat) (N : Nat) (k : Nat) (us : Int32) (ca : Int32) : fx_CI l D cI cZ yX5_cancelledSoFar wsX5_cancelledSoFar ({ frames := 0, cells := 0, slots := 0, locals := 0 }) [.ref h] [(h, .inr (5, [.ref r0, .ref r1, .ref r2, .ref r3, .ref r4, .ref r5, .ref r6, .ref r7, .int (nI N), .int (nI k), .int us, .int ca]))] (fun (u : Unit) => [(h, .inr (5, [.ref r0, .ref r1, .ref r2, .ref r3, .ref r4, .ref r5, .ref r6, .ref r7, .int (nI N), .int (nI k), .int us, .int ca]))]) (fun (r : Int32) (u : Unit) => r = ca) := by
  refine fx_CI.of (ws' := (wsX5_cancelledSoFar).tail) cX5_cancelledSoFar 1 (by decide) rfl (Nat.le_of_ble_eq_true rfl) ?_
  intro zp ze zs zm za zb zt zc zA ls zQ hQ hC hr hlk hA hH hl
  have zx := hC.1.1
  have zy := hC.1.2.1
  have hl : lv_has ls 1 [(0, .ref h)] := hl
  refine lv_aload_n zx zy dX5_cancelledSoFar_0 rfl (lv_at hl 0 rfl) ?_
  refine fx_get (C := RX5) (T := TX5) (N := 12) hC (fun _ h => List.mem_cons_of_mem _ (List.mem_append_right _ h)) hH 0 rfl rfl 11 (by decide) (by decide +kernel) rfl dX5_cancelledSoFar_1 ?_
  exact fx_iret (v := ca) hQ hC hr hlk hH dX5_cancelledSoFar_4 rfl (Nat.le_of_ble_eq_true rfl) (Nat.le_of_ble_eq_true rfl) (()) rfl (rfl)
set_option maxHeartbeats 4000000 in
set_option maxRecDepth 100000 in
theorem k_X5_fact (l : Launch) (D : va_G) (cI cZ : ClassId) (h : Nat) (r0 : Nat) (r1 : Nat) (r2 : Nat) (r3 : Nat) (r4 : Nat) (r5 : Nat) (r6 : Nat) (r7 : Nat) (N : Nat) (k : Nat) (us : Int32) (ca : Int32) (a0 : Nat) (a1 : Nat) (a2 : Nat) (a3 : Nat) (a4 : Nat) (a5 : Nat) (f0 : Nat → Int32) (f1 : Nat → Int32) (f2 : Nat → Int32) (f3 : Nat → Int32) (f4 : Nat → Int32) (f5 : Nat → Int32) (i : Nat) (t : Int32) (hi : i < N) (hN : N ≤ 4000) : fx_CI l D cI cZ yX5_fact wsX5_fact ({ frames := 1, cells := 0, slots := 0, locals := 21 }) [.ref h, .int (nI i), .int t] [(h, .inr (5, [.ref r0, .ref r1, .ref r2, .ref r3, .ref r4, .ref r5, .ref r6, .ref r7, .int (nI N), .int (nI k), .int us, .int ca])), (r0, .inr (6, [.ref a0])), (a0, .inl (cI, N, .inl f0)), (r1, .inr (6, [.ref a1])), (a1, .inl (cI, N, .inl f1)), (r2, .inr (6, [.ref a2])), (a2, .inl (cI, N, .inl f2)), (r3, .inr (6, [.ref a3])), (a3, .inl (cI, N, .inl f3)), (r4, .inr (6, [.ref a4])), (a4, .inl (cI, N, .inl f4)), (r5, .inr (6, [.ref a5])), (a5, .inl (cI, N, .inl f5))] (fun (u : Unit) => [(h, .inr (5, [.ref r0, .ref r1, .ref r2, .ref r3, .ref r4, .ref r5, .ref r6, .ref r7, .int (nI N), .int (nI k), .int us, .int ca])), (r0, .inr (6, [.ref a0])), (a0, .inl (cI, N, .inl f0)), (r1, .inr (6, [.ref a1])), (a1, .inl (cI, N, .inl f1)), (r2, .inr (6, [.ref a2])), (a2, .inl (cI, N, .inl f2)), (r3, .inr (6, [.ref a3])), (a3, .inl (cI, N, .inl f3)), (r4, .inr (6, [.ref a4])), (a4, .inl (cI, N, .inl f4)), (r5, .inr (6, [.ref a5])), (a5, .inl (cI, N, .inl f5))]) (fun (r : Int32) (u : Unit) => r = pmF (f0 i) (f1 i) (f2 i) (f3 i) (f4 i) (f5 i) t) := by
  refine fx_CI.of (ws' := (wsX5_fact).tail) cX5_fact 3 (by decide) rfl (Nat.le_of_ble_eq_true rfl) ?_
  intro zp ze zs zm za zb zt zc zA ls zQ hQ hC hr hlk hA hH hl
  have zx := hC.1.1
  have zy := hC.1.2.1
  have hl : lv_has ls 3 [(0, .ref h), (1, .int (nI i)), (2, .int t)] := hl
  refine lv_iload_n zx zy dX5_fact_0 rfl (lv_at hl 2 rfl) ?_
  by_cases t1_0 : t = 0
  · refine lv_tableIn (off := 39) (tgt := 40) zx zy dX5_fact_1 (by rw [t1_0]; decide) (by rw [t1_0]; decide) (by rw [t1_0]; rfl) (by decide) ?_
    refine lv_aload_n zx zy dX5_fact_40 rfl (lv_at hl 0 rfl) ?_
    refine fx_get (C := RX5) (T := TX5) (N := 12) hC (fun _ h => List.mem_cons_of_mem _ (List.mem_append_left _ (List.mem_append_right _ h))) hH 0 rfl rfl 0 (by decide) (by decide +kernel) rfl dX5_fact_41 ?_
    refine lv_iload_n zx zy dX5_fact_44 rfl (lv_at hl 1 rfl) ?_
    refine fx_cVi (n := 1) (As := [.int (nI i)]) (b := r0) (rest := []) (fun (u : Unit) => [(h, .inr (5, [.ref r0, .ref r1, .ref r2, .ref r3, .ref r4, .ref r5, .ref r6, .ref r7, .int (nI N), .int (nI k), .int us, .int ca])), (r0, .inr (6, [.ref a0])), (a0, .inl (cI, N, .inl f0)), (r1, .inr (6, [.ref a1])), (a1, .inl (cI, N, .inl f1)), (r2, .inr (6, [.ref a2])), (a2, .inl (cI, N, .inl f2)), (r3, .inr (6, [.ref a3])), (a3, .inl (cI, N, .inl f3)), (r4, .inr (6, [.ref a4])), (a4, .inl (cI, N, .inl f4)), (r5, .inr (6, [.ref a5])), (a5, .inl (cI, N, .inl f5))]) hC hA hH (k_X6_at l D cI cZ r0 a0 N f0 (nI i) (by first | assumption | omega)) [1, 2] [0, 3, 4, 5, 6, 7, 8, 9, 10, 11, 12] [0, 11, 12, 1, 2, 3, 4, 5, 6, 7, 8, 9, 10] [(h, .inr (5, [.ref r0, .ref r1, .ref r2, .ref r3, .ref r4, .ref r5, .ref r6, .ref r7, .int (nI N), .int (nI k), .int us, .int ca])), (r1, .inr (6, [.ref a1])), (a1, .inl (cI, N, .inl f1)), (r2, .inr (6, [.ref a2])), (a2, .inl (cI, N, .inl f2)), (r3, .inr (6, [.ref a3])), (a3, .inl (cI, N, .inl f3)), (r4, .inr (6, [.ref a4])), (a4, .inl (cI, N, .inl f4)), (r5, .inr (6, [.ref a5])), (a5, .inl (cI, N, .inl f5))] rfl rfl (by decide) (by decide) (fun _ => rfl) rfl gX5_fact_X6_at (by decide +kernel) ⟨Nat.le_of_ble_eq_true rfl, Nat.le_of_ble_eq_true rfl⟩ 0 rfl rfl rfl rfl rfl hl.1 (Nat.le_of_ble_eq_true rfl) ⟨Nat.le_of_ble_eq_true rfl, Nat.le_of_ble_eq_true rfl⟩ dX5_fact_45 (fun r1 u H locs hw45 hH => ?_)
    obtain rfl : r1 = rAt N f0 (nI i) := hw45
    have hH := (hH : fx_H zA zs.heap H locs D [(h, .inr (5, [.ref r0, .ref r1, .ref r2, .ref r3, .ref r4, .ref r5, .ref r6, .ref r7, .int (nI N), .int (nI k), .int us, .int ca])), (r0, .inr (6, [.ref a0])), (a0, .inl (cI, N, .inl f0)), (r1, .inr (6, [.ref a1])), (a1, .inl (cI, N, .inl f1)), (r2, .inr (6, [.ref a2])), (a2, .inl (cI, N, .inl f2)), (r3, .inr (6, [.ref a3])), (a3, .inl (cI, N, .inl f3)), (r4, .inr (6, [.ref a4])), (a4, .inl (cI, N, .inl f4)), (r5, .inr (6, [.ref a5])), (a5, .inl (cI, N, .inl f5))])
    refine lv_topi (fun v2 ev2 => ?_)
    obtain rfl : v2 = f0 i := ev2.trans (rAt_nI hi (by omega))
    exact fx_iret (v := f0 i) hQ hC hr hlk hH dX5_fact_48 rfl (Nat.le_of_ble_eq_true rfl) (Nat.le_of_ble_eq_true rfl) (()) rfl (by rw [t1_0]; rfl)
  by_cases t1_1 : t = 1
  · refine lv_tableIn (off := 48) (tgt := 49) zx zy dX5_fact_1 (by rw [t1_1]; decide) (by rw [t1_1]; decide) (by rw [t1_1]; rfl) (by decide) ?_
    refine lv_aload_n zx zy dX5_fact_49 rfl (lv_at hl 0 rfl) ?_
    refine fx_get (C := RX5) (T := TX5) (N := 12) hC (fun _ h => List.mem_cons_of_mem _ (List.mem_append_left _ (List.mem_append_right _ h))) hH 0 rfl rfl 1 (by decide) (by decide +kernel) rfl dX5_fact_50 ?_
    refine lv_iload_n zx zy dX5_fact_53 rfl (lv_at hl 1 rfl) ?_
    refine fx_cVi (n := 1) (As := [.int (nI i)]) (b := r1) (rest := []) (fun (u : Unit) => [(h, .inr (5, [.ref r0, .ref r1, .ref r2, .ref r3, .ref r4, .ref r5, .ref r6, .ref r7, .int (nI N), .int (nI k), .int us, .int ca])), (r0, .inr (6, [.ref a0])), (a0, .inl (cI, N, .inl f0)), (r1, .inr (6, [.ref a1])), (a1, .inl (cI, N, .inl f1)), (r2, .inr (6, [.ref a2])), (a2, .inl (cI, N, .inl f2)), (r3, .inr (6, [.ref a3])), (a3, .inl (cI, N, .inl f3)), (r4, .inr (6, [.ref a4])), (a4, .inl (cI, N, .inl f4)), (r5, .inr (6, [.ref a5])), (a5, .inl (cI, N, .inl f5))]) hC hA hH (k_X6_at l D cI cZ r1 a1 N f1 (nI i) (by first | assumption | omega)) [3, 4] [0, 1, 2, 5, 6, 7, 8, 9, 10, 11, 12] [0, 1, 2, 11, 12, 3, 4, 5, 6, 7, 8, 9, 10] [(h, .inr (5, [.ref r0, .ref r1, .ref r2, .ref r3, .ref r4, .ref r5, .ref r6, .ref r7, .int (nI N), .int (nI k), .int us, .int ca])), (r0, .inr (6, [.ref a0])), (a0, .inl (cI, N, .inl f0)), (r2, .inr (6, [.ref a2])), (a2, .inl (cI, N, .inl f2)), (r3, .inr (6, [.ref a3])), (a3, .inl (cI, N, .inl f3)), (r4, .inr (6, [.ref a4])), (a4, .inl (cI, N, .inl f4)), (r5, .inr (6, [.ref a5])), (a5, .inl (cI, N, .inl f5))] rfl rfl (by decide) (by decide) (fun _ => rfl) rfl gX5_fact_X6_at (by decide +kernel) ⟨Nat.le_of_ble_eq_true rfl, Nat.le_of_ble_eq_true rfl⟩ 0 rfl rfl rfl rfl rfl hl.1 (Nat.le_of_ble_eq_true rfl) ⟨Nat.le_of_ble_eq_true rfl, Nat.le_of_ble_eq_true rfl⟩ dX5_fact_54 (fun r3 u H locs hw54 hH => ?_)
    obtain rfl : r3 = rAt N f1 (nI i) := hw54
    have hH := (hH : fx_H zA zs.heap H locs D [(h, .inr (5, [.ref r0, .ref r1, .ref r2, .ref r3, .ref r4, .ref r5, .ref r6, .ref r7, .int (nI N), .int (nI k), .int us, .int ca])), (r0, .inr (6, [.ref a0])), (a0, .inl (cI, N, .inl f0)), (r1, .inr (6, [.ref a1])), (a1, .inl (cI, N, .inl f1)), (r2, .inr (6, [.ref a2])), (a2, .inl (cI, N, .inl f2)), (r3, .inr (6, [.ref a3])), (a3, .inl (cI, N, .inl f3)), (r4, .inr (6, [.ref a4])), (a4, .inl (cI, N, .inl f4)), (r5, .inr (6, [.ref a5])), (a5, .inl (cI, N, .inl f5))])
    refine lv_topi (fun v4 ev4 => ?_)
    obtain rfl : v4 = f1 i := ev4.trans (rAt_nI hi (by omega))
    exact fx_iret (v := f1 i) hQ hC hr hlk hH dX5_fact_57 rfl (Nat.le_of_ble_eq_true rfl) (Nat.le_of_ble_eq_true rfl) (()) rfl (by rw [t1_1]; rfl)
  by_cases t1_2 : t = 2
  · refine lv_tableIn (off := 57) (tgt := 58) zx zy dX5_fact_1 (by rw [t1_2]; decide) (by rw [t1_2]; decide) (by rw [t1_2]; rfl) (by decide) ?_
    refine lv_aload_n zx zy dX5_fact_58 rfl (lv_at hl 0 rfl) ?_
    refine fx_get (C := RX5) (T := TX5) (N := 12) hC (fun _ h => List.mem_cons_of_mem _ (List.mem_append_left _ (List.mem_append_right _ h))) hH 0 rfl rfl 2 (by decide) (by decide +kernel) rfl dX5_fact_59 ?_
    refine lv_iload_n zx zy dX5_fact_62 rfl (lv_at hl 1 rfl) ?_
    refine fx_cVi (n := 1) (As := [.int (nI i)]) (b := r2) (rest := []) (fun (u : Unit) => [(h, .inr (5, [.ref r0, .ref r1, .ref r2, .ref r3, .ref r4, .ref r5, .ref r6, .ref r7, .int (nI N), .int (nI k), .int us, .int ca])), (r0, .inr (6, [.ref a0])), (a0, .inl (cI, N, .inl f0)), (r1, .inr (6, [.ref a1])), (a1, .inl (cI, N, .inl f1)), (r2, .inr (6, [.ref a2])), (a2, .inl (cI, N, .inl f2)), (r3, .inr (6, [.ref a3])), (a3, .inl (cI, N, .inl f3)), (r4, .inr (6, [.ref a4])), (a4, .inl (cI, N, .inl f4)), (r5, .inr (6, [.ref a5])), (a5, .inl (cI, N, .inl f5))]) hC hA hH (k_X6_at l D cI cZ r2 a2 N f2 (nI i) (by first | assumption | omega)) [5, 6] [0, 1, 2, 3, 4, 7, 8, 9, 10, 11, 12] [0, 1, 2, 3, 4, 11, 12, 5, 6, 7, 8, 9, 10] [(h, .inr (5, [.ref r0, .ref r1, .ref r2, .ref r3, .ref r4, .ref r5, .ref r6, .ref r7, .int (nI N), .int (nI k), .int us, .int ca])), (r0, .inr (6, [.ref a0])), (a0, .inl (cI, N, .inl f0)), (r1, .inr (6, [.ref a1])), (a1, .inl (cI, N, .inl f1)), (r3, .inr (6, [.ref a3])), (a3, .inl (cI, N, .inl f3)), (r4, .inr (6, [.ref a4])), (a4, .inl (cI, N, .inl f4)), (r5, .inr (6, [.ref a5])), (a5, .inl (cI, N, .inl f5))] rfl rfl (by decide) (by decide) (fun _ => rfl) rfl gX5_fact_X6_at (by decide +kernel) ⟨Nat.le_of_ble_eq_true rfl, Nat.le_of_ble_eq_true rfl⟩ 0 rfl rfl rfl rfl rfl hl.1 (Nat.le_of_ble_eq_true rfl) ⟨Nat.le_of_ble_eq_true rfl, Nat.le_of_ble_eq_true rfl⟩ dX5_fact_63 (fun r5 u H locs hw63 hH => ?_)
    obtain rfl : r5 = rAt N f2 (nI i) := hw63
    have hH := (hH : fx_H zA zs.heap H locs D [(h, .inr (5, [.ref r0, .ref r1, .ref r2, .ref r3, .ref r4, .ref r5, .ref r6, .ref r7, .int (nI N), .int (nI k), .int us, .int ca])), (r0, .inr (6, [.ref a0])), (a0, .inl (cI, N, .inl f0)), (r1, .inr (6, [.ref a1])), (a1, .inl (cI, N, .inl f1)), (r2, .inr (6, [.ref a2])), (a2, .inl (cI, N, .inl f2)), (r3, .inr (6, [.ref a3])), (a3, .inl (cI, N, .inl f3)), (r4, .inr (6, [.ref a4])), (a4, .inl (cI, N, .inl f4)), (r5, .inr (6, [.ref a5])), (a5, .inl (cI, N, .inl f5))])
    refine lv_topi (fun v6 ev6 => ?_)
    obtain rfl : v6 = f2 i := ev6.trans (rAt_nI hi (by omega))
    exact fx_iret (v := f2 i) hQ hC hr hlk hH dX5_fact_66 rfl (Nat.le_of_ble_eq_true rfl) (Nat.le_of_ble_eq_true rfl) (()) rfl (by rw [t1_2]; rfl)
  by_cases t1_3 : t = 3
  · refine lv_tableIn (off := 66) (tgt := 67) zx zy dX5_fact_1 (by rw [t1_3]; decide) (by rw [t1_3]; decide) (by rw [t1_3]; rfl) (by decide) ?_
    refine lv_aload_n zx zy dX5_fact_67 rfl (lv_at hl 0 rfl) ?_
    refine fx_get (C := RX5) (T := TX5) (N := 12) hC (fun _ h => List.mem_cons_of_mem _ (List.mem_append_left _ (List.mem_append_right _ h))) hH 0 rfl rfl 3 (by decide) (by decide +kernel) rfl dX5_fact_68 ?_
    refine lv_iload_n zx zy dX5_fact_71 rfl (lv_at hl 1 rfl) ?_
    refine fx_cVi (n := 1) (As := [.int (nI i)]) (b := r3) (rest := []) (fun (u : Unit) => [(h, .inr (5, [.ref r0, .ref r1, .ref r2, .ref r3, .ref r4, .ref r5, .ref r6, .ref r7, .int (nI N), .int (nI k), .int us, .int ca])), (r0, .inr (6, [.ref a0])), (a0, .inl (cI, N, .inl f0)), (r1, .inr (6, [.ref a1])), (a1, .inl (cI, N, .inl f1)), (r2, .inr (6, [.ref a2])), (a2, .inl (cI, N, .inl f2)), (r3, .inr (6, [.ref a3])), (a3, .inl (cI, N, .inl f3)), (r4, .inr (6, [.ref a4])), (a4, .inl (cI, N, .inl f4)), (r5, .inr (6, [.ref a5])), (a5, .inl (cI, N, .inl f5))]) hC hA hH (k_X6_at l D cI cZ r3 a3 N f3 (nI i) (by first | assumption | omega)) [7, 8] [0, 1, 2, 3, 4, 5, 6, 9, 10, 11, 12] [0, 1, 2, 3, 4, 5, 6, 11, 12, 7, 8, 9, 10] [(h, .inr (5, [.ref r0, .ref r1, .ref r2, .ref r3, .ref r4, .ref r5, .ref r6, .ref r7, .int (nI N), .int (nI k), .int us, .int ca])), (r0, .inr (6, [.ref a0])), (a0, .inl (cI, N, .inl f0)), (r1, .inr (6, [.ref a1])), (a1, .inl (cI, N, .inl f1)), (r2, .inr (6, [.ref a2])), (a2, .inl (cI, N, .inl f2)), (r4, .inr (6, [.ref a4])), (a4, .inl (cI, N, .inl f4)), (r5, .inr (6, [.ref a5])), (a5, .inl (cI, N, .inl f5))] rfl rfl (by decide) (by decide) (fun _ => rfl) rfl gX5_fact_X6_at (by decide +kernel) ⟨Nat.le_of_ble_eq_true rfl, Nat.le_of_ble_eq_true rfl⟩ 0 rfl rfl rfl rfl rfl hl.1 (Nat.le_of_ble_eq_true rfl) ⟨Nat.le_of_ble_eq_true rfl, Nat.le_of_ble_eq_true rfl⟩ dX5_fact_72 (fun r7 u H locs hw72 hH => ?_)
    obtain rfl : r7 = rAt N f3 (nI i) := hw72
    have hH := (hH : fx_H zA zs.heap H locs D [(h, .inr (5, [.ref r0, .ref r1, .ref r2, .ref r3, .ref r4, .ref r5, .ref r6, .ref r7, .int (nI N), .int (nI k), .int us, .int ca])), (r0, .inr (6, [.ref a0])), (a0, .inl (cI, N, .inl f0)), (r1, .inr (6, [.ref a1])), (a1, .inl (cI, N, .inl f1)), (r2, .inr (6, [.ref a2])), (a2, .inl (cI, N, .inl f2)), (r3, .inr (6, [.ref a3])), (a3, .inl (cI, N, .inl f3)), (r4, .inr (6, [.ref a4])), (a4, .inl (cI, N, .inl f4)), (r5, .inr (6, [.ref a5])), (a5, .inl (cI, N, .inl f5))])
    refine lv_topi (fun v8 ev8 => ?_)
    obtain rfl : v8 = f3 i := ev8.trans (rAt_nI hi (by omega))
    exact fx_iret (v := f3 i) hQ hC hr hlk hH dX5_fact_75 rfl (Nat.le_of_ble_eq_true rfl) (Nat.le_of_ble_eq_true rfl) (()) rfl (by rw [t1_3]; rfl)
  by_cases t1_4 : t = 4
  · refine lv_tableIn (off := 75) (tgt := 76) zx zy dX5_fact_1 (by rw [t1_4]; decide) (by rw [t1_4]; decide) (by rw [t1_4]; rfl) (by decide) ?_
    refine lv_aload_n zx zy dX5_fact_76 rfl (lv_at hl 0 rfl) ?_
    refine fx_get (C := RX5) (T := TX5) (N := 12) hC (fun _ h => List.mem_cons_of_mem _ (List.mem_append_left _ (List.mem_append_right _ h))) hH 0 rfl rfl 4 (by decide) (by decide +kernel) rfl dX5_fact_77 ?_
    refine lv_iload_n zx zy dX5_fact_80 rfl (lv_at hl 1 rfl) ?_
    refine fx_cVi (n := 1) (As := [.int (nI i)]) (b := r4) (rest := []) (fun (u : Unit) => [(h, .inr (5, [.ref r0, .ref r1, .ref r2, .ref r3, .ref r4, .ref r5, .ref r6, .ref r7, .int (nI N), .int (nI k), .int us, .int ca])), (r0, .inr (6, [.ref a0])), (a0, .inl (cI, N, .inl f0)), (r1, .inr (6, [.ref a1])), (a1, .inl (cI, N, .inl f1)), (r2, .inr (6, [.ref a2])), (a2, .inl (cI, N, .inl f2)), (r3, .inr (6, [.ref a3])), (a3, .inl (cI, N, .inl f3)), (r4, .inr (6, [.ref a4])), (a4, .inl (cI, N, .inl f4)), (r5, .inr (6, [.ref a5])), (a5, .inl (cI, N, .inl f5))]) hC hA hH (k_X6_at l D cI cZ r4 a4 N f4 (nI i) (by first | assumption | omega)) [9, 10] [0, 1, 2, 3, 4, 5, 6, 7, 8, 11, 12] [0, 1, 2, 3, 4, 5, 6, 7, 8, 11, 12, 9, 10] [(h, .inr (5, [.ref r0, .ref r1, .ref r2, .ref r3, .ref r4, .ref r5, .ref r6, .ref r7, .int (nI N), .int (nI k), .int us, .int ca])), (r0, .inr (6, [.ref a0])), (a0, .inl (cI, N, .inl f0)), (r1, .inr (6, [.ref a1])), (a1, .inl (cI, N, .inl f1)), (r2, .inr (6, [.ref a2])), (a2, .inl (cI, N, .inl f2)), (r3, .inr (6, [.ref a3])), (a3, .inl (cI, N, .inl f3)), (r5, .inr (6, [.ref a5])), (a5, .inl (cI, N, .inl f5))] rfl rfl (by decide) (by decide) (fun _ => rfl) rfl gX5_fact_X6_at (by decide +kernel) ⟨Nat.le_of_ble_eq_true rfl, Nat.le_of_ble_eq_true rfl⟩ 0 rfl rfl rfl rfl rfl hl.1 (Nat.le_of_ble_eq_true rfl) ⟨Nat.le_of_ble_eq_true rfl, Nat.le_of_ble_eq_true rfl⟩ dX5_fact_81 (fun r9 u H locs hw81 hH => ?_)
    obtain rfl : r9 = rAt N f4 (nI i) := hw81
    have hH := (hH : fx_H zA zs.heap H locs D [(h, .inr (5, [.ref r0, .ref r1, .ref r2, .ref r3, .ref r4, .ref r5, .ref r6, .ref r7, .int (nI N), .int (nI k), .int us, .int ca])), (r0, .inr (6, [.ref a0])), (a0, .inl (cI, N, .inl f0)), (r1, .inr (6, [.ref a1])), (a1, .inl (cI, N, .inl f1)), (r2, .inr (6, [.ref a2])), (a2, .inl (cI, N, .inl f2)), (r3, .inr (6, [.ref a3])), (a3, .inl (cI, N, .inl f3)), (r4, .inr (6, [.ref a4])), (a4, .inl (cI, N, .inl f4)), (r5, .inr (6, [.ref a5])), (a5, .inl (cI, N, .inl f5))])
    refine lv_topi (fun v10 ev10 => ?_)
    obtain rfl : v10 = f4 i := ev10.trans (rAt_nI hi (by omega))
    exact fx_iret (v := f4 i) hQ hC hr hlk hH dX5_fact_84 rfl (Nat.le_of_ble_eq_true rfl) (Nat.le_of_ble_eq_true rfl) (()) rfl (by rw [t1_4]; rfl)
  by_cases t1_5 : t = 5
  · refine lv_tableIn (off := 84) (tgt := 85) zx zy dX5_fact_1 (by rw [t1_5]; decide) (by rw [t1_5]; decide) (by rw [t1_5]; rfl) (by decide) ?_
    refine lv_aload_n zx zy dX5_fact_85 rfl (lv_at hl 0 rfl) ?_
    refine fx_get (C := RX5) (T := TX5) (N := 12) hC (fun _ h => List.mem_cons_of_mem _ (List.mem_append_left _ (List.mem_append_right _ h))) hH 0 rfl rfl 5 (by decide) (by decide +kernel) rfl dX5_fact_86 ?_
    refine lv_iload_n zx zy dX5_fact_89 rfl (lv_at hl 1 rfl) ?_
    refine fx_cVi (n := 1) (As := [.int (nI i)]) (b := r5) (rest := []) (fun (u : Unit) => [(h, .inr (5, [.ref r0, .ref r1, .ref r2, .ref r3, .ref r4, .ref r5, .ref r6, .ref r7, .int (nI N), .int (nI k), .int us, .int ca])), (r0, .inr (6, [.ref a0])), (a0, .inl (cI, N, .inl f0)), (r1, .inr (6, [.ref a1])), (a1, .inl (cI, N, .inl f1)), (r2, .inr (6, [.ref a2])), (a2, .inl (cI, N, .inl f2)), (r3, .inr (6, [.ref a3])), (a3, .inl (cI, N, .inl f3)), (r4, .inr (6, [.ref a4])), (a4, .inl (cI, N, .inl f4)), (r5, .inr (6, [.ref a5])), (a5, .inl (cI, N, .inl f5))]) hC hA hH (k_X6_at l D cI cZ r5 a5 N f5 (nI i) (by first | assumption | omega)) [11, 12] [0, 1, 2, 3, 4, 5, 6, 7, 8, 9, 10] [0, 1, 2, 3, 4, 5, 6, 7, 8, 9, 10, 11, 12] [(h, .inr (5, [.ref r0, .ref r1, .ref r2, .ref r3, .ref r4, .ref r5, .ref r6, .ref r7, .int (nI N), .int (nI k), .int us, .int ca])), (r0, .inr (6, [.ref a0])), (a0, .inl (cI, N, .inl f0)), (r1, .inr (6, [.ref a1])), (a1, .inl (cI, N, .inl f1)), (r2, .inr (6, [.ref a2])), (a2, .inl (cI, N, .inl f2)), (r3, .inr (6, [.ref a3])), (a3, .inl (cI, N, .inl f3)), (r4, .inr (6, [.ref a4])), (a4, .inl (cI, N, .inl f4))] rfl rfl (by decide) (by decide) (fun _ => rfl) rfl gX5_fact_X6_at (by decide +kernel) ⟨Nat.le_of_ble_eq_true rfl, Nat.le_of_ble_eq_true rfl⟩ 0 rfl rfl rfl rfl rfl hl.1 (Nat.le_of_ble_eq_true rfl) ⟨Nat.le_of_ble_eq_true rfl, Nat.le_of_ble_eq_true rfl⟩ dX5_fact_90 (fun r11 u H locs hw90 hH => ?_)
    obtain rfl : r11 = rAt N f5 (nI i) := hw90
    have hH := (hH : fx_H zA zs.heap H locs D [(h, .inr (5, [.ref r0, .ref r1, .ref r2, .ref r3, .ref r4, .ref r5, .ref r6, .ref r7, .int (nI N), .int (nI k), .int us, .int ca])), (r0, .inr (6, [.ref a0])), (a0, .inl (cI, N, .inl f0)), (r1, .inr (6, [.ref a1])), (a1, .inl (cI, N, .inl f1)), (r2, .inr (6, [.ref a2])), (a2, .inl (cI, N, .inl f2)), (r3, .inr (6, [.ref a3])), (a3, .inl (cI, N, .inl f3)), (r4, .inr (6, [.ref a4])), (a4, .inl (cI, N, .inl f4)), (r5, .inr (6, [.ref a5])), (a5, .inl (cI, N, .inl f5))])
    refine lv_topi (fun v12 ev12 => ?_)
    obtain rfl : v12 = f5 i := ev12.trans (rAt_nI hi (by omega))
    exact fx_iret (v := f5 i) hQ hC hr hlk hH dX5_fact_93 rfl (Nat.le_of_ble_eq_true rfl) (Nat.le_of_ble_eq_true rfl) (()) rfl (by rw [t1_5]; rfl)
  refine lv_tableOut (tgt := 94) zx zy dX5_fact_1 (by have n0 := lv_neT (a := 0) t1_0 rfl; have n1 := lv_neT (a := 1) t1_1 rfl; have n2 := lv_neT (a := 2) t1_2 rfl; have n3 := lv_neT (a := 3) t1_3 rfl; have n4 := lv_neT (a := 4) t1_4 rfl; have n5 := lv_neT (a := 5) t1_5 rfl; omega) (by decide) ?_
  refine lv_ldc (own := RX5) (v := (-2147483648)) zx zy hC.1.2.2.2.1 (hC.1.2.2.2.2 _ (by decide +kernel)) dX5_fact_94 ?_
  exact fx_iret (v := (-2147483648)) hQ hC hr hlk hH dX5_fact_96 rfl (Nat.le_of_ble_eq_true rfl) (Nat.le_of_ble_eq_true rfl) (()) rfl ((pmF_else t1_0 t1_1 t1_2 t1_3 t1_4 t1_5).symm)
set_option maxHeartbeats 4000000 in
set_option maxRecDepth 100000 in
theorem k_X5_leastOf (l : Launch) (D : va_G) (cI cZ : ClassId) (h : Nat) (r0 : Nat) (r1 : Nat) (r2 : Nat) (r3 : Nat) (r4 : Nat) (r5 : Nat) (r6 : Nat) (r7 : Nat) (N : Nat) (k : Nat) (us : Int32) (ca : Int32) (a0 : Nat) (a1 : Nat) (a7 : Nat) (f0 : Nat → Int32) (f1 : Nat → Int32) (f7 : Nat → Int32) (who : Int32) (wi : Nat) (hwi : who + 1 = nI wi) (hw11 : wi < 11) (hkN : k ≤ N) (hN : N ≤ 4000) (hsr : sOk f0 f1 f7 k) : fx_CI l D cI cZ yX5_leastOf wsX5_leastOf ({ frames := 2, cells := 0, slots := 0, locals := 42 }) [.ref h, .int who] [(h, .inr (5, [.ref r0, .ref r1, .ref r2, .ref r3, .ref r4, .ref r5, .ref r6, .ref r7, .int (nI N), .int (nI k), .int us, .int ca])), (r0, .inr (6, [.ref a0])), (a0, .inl (cI, N, .inl f0)), (r1, .inr (6, [.ref a1])), (a1, .inl (cI, N, .inl f1)), (r7, .inr (6, [.ref a7])), (a7, .inl (cI, 11, .inl f7))] (fun (u : (Nat → Int32)) => [(h, .inr (5, [.ref r0, .ref r1, .ref r2, .ref r3, .ref r4, .ref r5, .ref r6, .ref r7, .int (nI N), .int (nI k), .int us, .int ca])), (r0, .inr (6, [.ref a0])), (a0, .inl (cI, N, .inl f0)), (r1, .inr (6, [.ref a1])), (a1, .inl (cI, N, .inl f1)), (r7, .inr (6, [.ref a7])), (a7, .inl (cI, 11, .inl u))]) (fun (r : Int32) (u : (Nat → Int32)) => r = nI (fsP (hW f0 f1 wi) k 0) ∧ u = upd f7 wi (nI (fsP (hW f0 f1 wi) k 0))) := by
  refine fx_CI.of (ws' := (wsX5_leastOf).tail) cX5_leastOf 3 (by decide) rfl (Nat.le_of_ble_eq_true rfl) ?_
  intro zp ze zs zm za zb zt zc zA ls zQ hQ hC hr hlk hA hH hl
  have zx := hC.1.1
  have zy := hC.1.2.1
  have hl : lv_has ls 3 [(0, .ref h), (1, .int who)] := hl
  obtain ⟨s0, hs0, es0, hs1⟩ := hsr wi hw11
  refine lv_aload_n zx zy dX5_leastOf_0 rfl (lv_at hl 0 rfl) ?_
  refine fx_get (C := RX5) (T := TX5) (N := 12) hC (fun _ h => List.mem_cons_of_mem _ (List.mem_append_left _ (List.mem_append_right _ h))) hH 0 rfl rfl 7 (by decide) (by decide +kernel) rfl dX5_leastOf_1 ?_
  refine lv_iload_n zx zy dX5_leastOf_4 rfl (lv_at hl 1 rfl) ?_
  refine lv_iconst (v := 1) zx zy dX5_leastOf_5 (by decide) ?_
  refine lv_iadd zx zy dX5_leastOf_6 ?_
  refine lv_topi (fun v1 ev1 => ?_)
  obtain rfl : v1 = nI wi := ev1.trans (hwi)
  refine fx_cVi (n := 1) (As := [.int (nI wi)]) (b := r7) (rest := []) (fun (u : Unit) => [(h, .inr (5, [.ref r0, .ref r1, .ref r2, .ref r3, .ref r4, .ref r5, .ref r6, .ref r7, .int (nI N), .int (nI k), .int us, .int ca])), (r0, .inr (6, [.ref a0])), (a0, .inl (cI, N, .inl f0)), (r1, .inr (6, [.ref a1])), (a1, .inl (cI, N, .inl f1)), (r7, .inr (6, [.ref a7])), (a7, .inl (cI, 11, .inl f7))]) hC hA hH (k_X6_at l D cI cZ r7 a7 11 f7 (nI wi) (by first | assumption | omega)) [5, 6] [0, 1, 2, 3, 4] [0, 1, 2, 3, 4, 5, 6] [(h, .inr (5, [.ref r0, .ref r1, .ref r2, .ref r3, .ref r4, .ref r5, .ref r6, .ref r7, .int (nI N), .int (nI k), .int us, .int ca])), (r0, .inr (6, [.ref a0])), (a0, .inl (cI, N, .inl f0)), (r1, .inr (6, [.ref a1])), (a1, .inl (cI, N, .inl f1))] rfl rfl (by decide) (by decide) (fun _ => rfl) rfl gX5_leastOf_X6_at (by decide +kernel) ⟨Nat.le_of_ble_eq_true rfl, Nat.le_of_ble_eq_true rfl⟩ 0 rfl rfl rfl rfl rfl hl.1 (Nat.le_of_ble_eq_true rfl) ⟨Nat.le_of_ble_eq_true rfl, Nat.le_of_ble_eq_true rfl⟩ dX5_leastOf_7 (fun r2 u H locs hw7 hH => ?_)
  obtain rfl : r2 = rAt 11 f7 (nI wi) := hw7
  have hH := (hH : fx_H zA zs.heap H locs D [(h, .inr (5, [.ref r0, .ref r1, .ref r2, .ref r3, .ref r4, .ref r5, .ref r6, .ref r7, .int (nI N), .int (nI k), .int us, .int ca])), (r0, .inr (6, [.ref a0])), (a0, .inl (cI, N, .inl f0)), (r1, .inr (6, [.ref a1])), (a1, .inl (cI, N, .inl f1)), (r7, .inr (6, [.ref a7])), (a7, .inl (cI, 11, .inl f7))])
  refine lv_topi (fun v3 ev3 => ?_)
  obtain rfl : v3 = nI s0 := ev3.trans ((rAt_nI hw11 (by omega)).trans es0)
  refine lv_istore_n (lv' := [(2, .int (nI s0)), (0, .ref h), (1, .int who)]) zx zy dX5_leastOf_10 rfl hl (by decide) rfl (fun ls hl => ?_)
  have L11 : ∀ (fu : Nat) (p : Nat) (hp : p ≤ k) (hf : ∀ j, j < p → hW f0 f1 wi j = false) (H : Heap) (locs : List Loc) (ls : Array Slot), k - p < fu → fx_H zA zs.heap H locs D [(h, .inr (5, [.ref r0, .ref r1, .ref r2, .ref r3, .ref r4, .ref r5, .ref r6, .ref r7, .int (nI N), .int (nI k), .int us, .int ca])), (r0, .inr (6, [.ref a0])), (a0, .inl (cI, N, .inl f0)), (r1, .inr (6, [.ref a1])), (a1, .inl (cI, N, .inl f1)), (r7, .inr (6, [.ref a7])), (a7, .inl (cI, 11, .inl f7))] → lv_has ls 3 [(0, .ref h), (1, .int who), (2, .int (nI p))] → W zp l ze ({ frames := 2, cells := 0, slots := 0, locals := 42 }) zs zm za zb zt zc H locs (0) (0) zQ (F0 zm 11 ls []) := by
    intro fu
    induction fu with
    | zero => intro p hp hf H locs ls hfu; exact absurd hfu (Nat.not_lt_zero _)
    | succ fu ih11 =>
      intro p hp hf H locs ls hfu11 hH hl
      refine lv_iload_n zx zy dX5_leastOf_11 rfl (lv_at hl 2 rfl) ?_
      refine lv_aload_n zx zy dX5_leastOf_12 rfl (lv_at hl 0 rfl) ?_
      refine fx_get (C := RX5) (T := TX5) (N := 12) hC (fun _ h => List.mem_cons_of_mem _ (List.mem_append_left _ (List.mem_append_right _ h))) hH 0 rfl rfl 9 (by decide) (by decide +kernel) rfl dX5_leastOf_13 ?_
      refine lv_icmp_ge (tgt := 45) zx zy dX5_leastOf_16 (by decide) (fun c16 => ?_) (fun c16 => ?_)
      · skip
        have hpe : fsP (hW f0 f1 wi) k 0 = p := fsP_eq (Nat.zero_le _) (by omega) (fun j _ b => hf j b) (Or.inl (by have := fx_le_of c16 (by omega) (by omega); omega))
        refine lv_aload_n zx zy dX5_leastOf_45 rfl (lv_at hl 0 rfl) ?_
        refine fx_get (C := RX5) (T := TX5) (N := 12) hC (fun _ h => List.mem_cons_of_mem _ (List.mem_append_left _ (List.mem_append_right _ h))) hH 0 rfl rfl 7 (by decide) (by decide +kernel) rfl dX5_leastOf_46 ?_
        refine lv_iload_n zx zy dX5_leastOf_49 rfl (lv_at hl 1 rfl) ?_
        refine lv_iconst (v := 1) zx zy dX5_leastOf_50 (by decide) ?_
        refine lv_iadd zx zy dX5_leastOf_51 ?_
        refine lv_topi (fun v4 ev4 => ?_)
        obtain rfl : v4 = nI wi := ev4.trans (hwi)
        refine lv_iload_n zx zy dX5_leastOf_52 rfl (lv_at hl 2 rfl) ?_
        refine fx_cVv (n := 2) (As := [.int (nI wi), .int (nI p)]) (b := r7) (rest := []) (fun (u : (Nat → Int32)) => [(h, .inr (5, [.ref r0, .ref r1, .ref r2, .ref r3, .ref r4, .ref r5, .ref r6, .ref r7, .int (nI N), .int (nI k), .int us, .int ca])), (r0, .inr (6, [.ref a0])), (a0, .inl (cI, N, .inl f0)), (r1, .inr (6, [.ref a1])), (a1, .inl (cI, N, .inl f1)), (r7, .inr (6, [.ref a7])), (a7, .inl (cI, 11, .inl u))]) hC hA hH (k_X6_put l D cI cZ r7 a7 11 f7 (nI wi) (nI p) (by first | assumption | omega)) [5, 6] [0, 1, 2, 3, 4] [0, 1, 2, 3, 4, 5, 6] [(h, .inr (5, [.ref r0, .ref r1, .ref r2, .ref r3, .ref r4, .ref r5, .ref r6, .ref r7, .int (nI N), .int (nI k), .int us, .int ca])), (r0, .inr (6, [.ref a0])), (a0, .inl (cI, N, .inl f0)), (r1, .inr (6, [.ref a1])), (a1, .inl (cI, N, .inl f1))] rfl rfl (by decide) (by decide) (fun _ => rfl) rfl gX5_leastOf_X6_put (by decide +kernel) ⟨Nat.le_of_ble_eq_true rfl, Nat.le_of_ble_eq_true rfl⟩ 0 rfl rfl rfl rfl rfl hl.1 (Nat.le_of_ble_eq_true rfl) ⟨Nat.le_of_ble_eq_true rfl, Nat.le_of_ble_eq_true rfl⟩ dX5_leastOf_53 (fun u H locs hw53 hH => ?_)
        obtain ⟨u6, rfl⟩ : ∃ z, z = u := ⟨_, rfl⟩
        obtain rfl : u6 = rPut 11 f7 (nI wi) (nI p) := hw53
        have hH := (hH : fx_H zA zs.heap H locs D [(h, .inr (5, [.ref r0, .ref r1, .ref r2, .ref r3, .ref r4, .ref r5, .ref r6, .ref r7, .int (nI N), .int (nI k), .int us, .int ca])), (r0, .inr (6, [.ref a0])), (a0, .inl (cI, N, .inl f0)), (r1, .inr (6, [.ref a1])), (a1, .inl (cI, N, .inl f1)), (r7, .inr (6, [.ref a7])), (a7, .inl (cI, 11, .inl (rPut 11 f7 (nI wi) (nI p))))])
        rw [show (rPut 11 f7 (nI wi) (nI p) : Nat → Int32) = upd f7 wi (nI p) from rPut_nI hw11 (by omega)] at hH
        refine lv_iload_n zx zy dX5_leastOf_56 rfl (lv_at hl 2 rfl) ?_
        exact fx_iret (v := nI p) hQ hC hr hlk hH dX5_leastOf_57 rfl (Nat.le_of_ble_eq_true rfl) (Nat.le_of_ble_eq_true rfl) (upd f7 wi (nI p)) rfl (by rw [hpe]; exact ⟨rfl, rfl⟩)
      · skip
        have hlt : p < k := fx_lt_of c16 (by omega)
        refine lv_aload_n zx zy dX5_leastOf_19 rfl (lv_at hl 0 rfl) ?_
        refine lv_iload_n zx zy dX5_leastOf_20 rfl (lv_at hl 2 rfl) ?_
        refine fx_cVi (n := 1) (As := [.int (nI p)]) (b := h) (rest := []) (fun (u : Unit) => [(h, .inr (5, [.ref r0, .ref r1, .ref r2, .ref r3, .ref r4, .ref r5, .ref r6, .ref r7, .int (nI N), .int (nI k), .int us, .int ca])), (r0, .inr (6, [.ref a0])), (a0, .inl (cI, N, .inl f0)), (r1, .inr (6, [.ref a1])), (a1, .inl (cI, N, .inl f1)), (r7, .inr (6, [.ref a7])), (a7, .inl (cI, 11, .inl f7))]) hC hA hH (k_X5_isHeld l D cI cZ h r0 r1 r2 r3 r4 r5 r6 r7 N k us ca a0 f0 p (by first | assumption | omega) (by first | assumption | omega)) [0, 1, 2] [3, 4, 5, 6] [4, 5, 6, 0, 1, 2, 3] [(r1, .inr (6, [.ref a1])), (a1, .inl (cI, N, .inl f1)), (r7, .inr (6, [.ref a7])), (a7, .inl (cI, 11, .inl f7))] rfl rfl (by decide) (by decide) (fun _ => rfl) rfl gX5_leastOf_X5_isHeld (by decide +kernel) ⟨Nat.le_of_ble_eq_true rfl, Nat.le_of_ble_eq_true rfl⟩ 0 rfl rfl rfl rfl rfl hl.1 (Nat.le_of_ble_eq_true rfl) ⟨Nat.le_of_ble_eq_true rfl, Nat.le_of_ble_eq_true rfl⟩ dX5_leastOf_21 (fun r7 u H locs hw21 hH => ?_)
        rcases hw21 with ⟨hg21, rfl⟩ | ⟨hg21, rfl⟩
        · skip
          have hH := (hH : fx_H zA zs.heap H locs D [(h, .inr (5, [.ref r0, .ref r1, .ref r2, .ref r3, .ref r4, .ref r5, .ref r6, .ref r7, .int (nI N), .int (nI k), .int us, .int ca])), (r0, .inr (6, [.ref a0])), (a0, .inl (cI, N, .inl f0)), (r1, .inr (6, [.ref a1])), (a1, .inl (cI, N, .inl f1)), (r7, .inr (6, [.ref a7])), (a7, .inl (cI, 11, .inl f7))])
          refine lv_if_eq (tgt := 39) zx zy dX5_leastOf_24 (by decide) (fun c24 => ?_) (fun c24 => ?_)
          · exact absurd c24 (by decide)
          · skip
            refine lv_aload_n zx zy dX5_leastOf_27 rfl (lv_at hl 0 rfl) ?_
            refine fx_get (C := RX5) (T := TX5) (N := 12) hC (fun _ h => List.mem_cons_of_mem _ (List.mem_append_left _ (List.mem_append_right _ h))) hH 0 rfl rfl 1 (by decide) (by decide +kernel) rfl dX5_leastOf_28 ?_
            refine lv_iload_n zx zy dX5_leastOf_31 rfl (lv_at hl 2 rfl) ?_
            refine fx_cVi (n := 1) (As := [.int (nI p)]) (b := r1) (rest := []) (fun (u : Unit) => [(h, .inr (5, [.ref r0, .ref r1, .ref r2, .ref r3, .ref r4, .ref r5, .ref r6, .ref r7, .int (nI N), .int (nI k), .int us, .int ca])), (r0, .inr (6, [.ref a0])), (a0, .inl (cI, N, .inl f0)), (r1, .inr (6, [.ref a1])), (a1, .inl (cI, N, .inl f1)), (r7, .inr (6, [.ref a7])), (a7, .inl (cI, 11, .inl f7))]) hC hA hH (k_X6_at l D cI cZ r1 a1 N f1 (nI p) (by first | assumption | omega)) [3, 4] [0, 1, 2, 5, 6] [0, 1, 2, 5, 6, 3, 4] [(h, .inr (5, [.ref r0, .ref r1, .ref r2, .ref r3, .ref r4, .ref r5, .ref r6, .ref r7, .int (nI N), .int (nI k), .int us, .int ca])), (r0, .inr (6, [.ref a0])), (a0, .inl (cI, N, .inl f0)), (r7, .inr (6, [.ref a7])), (a7, .inl (cI, 11, .inl f7))] rfl rfl (by decide) (by decide) (fun _ => rfl) rfl gX5_leastOf_X6_at (by decide +kernel) ⟨Nat.le_of_ble_eq_true rfl, Nat.le_of_ble_eq_true rfl⟩ 0 rfl rfl rfl rfl rfl hl.1 (Nat.le_of_ble_eq_true rfl) ⟨Nat.le_of_ble_eq_true rfl, Nat.le_of_ble_eq_true rfl⟩ dX5_leastOf_32 (fun r8 u H locs hw32 hH => ?_)
            obtain rfl : r8 = rAt N f1 (nI p) := hw32
            have hH := (hH : fx_H zA zs.heap H locs D [(h, .inr (5, [.ref r0, .ref r1, .ref r2, .ref r3, .ref r4, .ref r5, .ref r6, .ref r7, .int (nI N), .int (nI k), .int us, .int ca])), (r0, .inr (6, [.ref a0])), (a0, .inl (cI, N, .inl f0)), (r1, .inr (6, [.ref a1])), (a1, .inl (cI, N, .inl f1)), (r7, .inr (6, [.ref a7])), (a7, .inl (cI, 11, .inl f7))])
            refine lv_topi (fun v9 ev9 => ?_)
            obtain rfl : v9 = f1 p := ev9.trans (rAt_nI (by omega) (by omega))
            refine lv_iload_n zx zy dX5_leastOf_35 rfl (lv_at hl 1 rfl) ?_
            refine lv_icmp_eq (tgt := 45) zx zy dX5_leastOf_36 (by decide) (fun c36 => ?_) (fun c36 => ?_)
            · skip
              have hpe : fsP (hW f0 f1 wi) k 0 = p := fsP_eq (Nat.zero_le _) (by omega) (fun j _ b => hf j b) (Or.inr (hW_t hwi hg21 c36))
              refine lv_aload_n zx zy dX5_leastOf_45 rfl (lv_at hl 0 rfl) ?_
              refine fx_get (C := RX5) (T := TX5) (N := 12) hC (fun _ h => List.mem_cons_of_mem _ (List.mem_append_left _ (List.mem_append_right _ h))) hH 0 rfl rfl 7 (by decide) (by decide +kernel) rfl dX5_leastOf_46 ?_
              refine lv_iload_n zx zy dX5_leastOf_49 rfl (lv_at hl 1 rfl) ?_
              refine lv_iconst (v := 1) zx zy dX5_leastOf_50 (by decide) ?_
              refine lv_iadd zx zy dX5_leastOf_51 ?_
              refine lv_topi (fun v10 ev10 => ?_)
              obtain rfl : v10 = nI wi := ev10.trans (hwi)
              refine lv_iload_n zx zy dX5_leastOf_52 rfl (lv_at hl 2 rfl) ?_
              refine fx_cVv (n := 2) (As := [.int (nI wi), .int (nI p)]) (b := r7) (rest := []) (fun (u : (Nat → Int32)) => [(h, .inr (5, [.ref r0, .ref r1, .ref r2, .ref r3, .ref r4, .ref r5, .ref r6, .ref r7, .int (nI N), .int (nI k), .int us, .int ca])), (r0, .inr (6, [.ref a0])), (a0, .inl (cI, N, .inl f0)), (r1, .inr (6, [.ref a1])), (a1, .inl (cI, N, .inl f1)), (r7, .inr (6, [.ref a7])), (a7, .inl (cI, 11, .inl u))]) hC hA hH (k_X6_put l D cI cZ r7 a7 11 f7 (nI wi) (nI p) (by first | assumption | omega)) [5, 6] [0, 1, 2, 3, 4] [0, 1, 2, 3, 4, 5, 6] [(h, .inr (5, [.ref r0, .ref r1, .ref r2, .ref r3, .ref r4, .ref r5, .ref r6, .ref r7, .int (nI N), .int (nI k), .int us, .int ca])), (r0, .inr (6, [.ref a0])), (a0, .inl (cI, N, .inl f0)), (r1, .inr (6, [.ref a1])), (a1, .inl (cI, N, .inl f1))] rfl rfl (by decide) (by decide) (fun _ => rfl) rfl gX5_leastOf_X6_put (by decide +kernel) ⟨Nat.le_of_ble_eq_true rfl, Nat.le_of_ble_eq_true rfl⟩ 0 rfl rfl rfl rfl rfl hl.1 (Nat.le_of_ble_eq_true rfl) ⟨Nat.le_of_ble_eq_true rfl, Nat.le_of_ble_eq_true rfl⟩ dX5_leastOf_53 (fun u H locs hw53 hH => ?_)
              obtain ⟨u12, rfl⟩ : ∃ z, z = u := ⟨_, rfl⟩
              obtain rfl : u12 = rPut 11 f7 (nI wi) (nI p) := hw53
              have hH := (hH : fx_H zA zs.heap H locs D [(h, .inr (5, [.ref r0, .ref r1, .ref r2, .ref r3, .ref r4, .ref r5, .ref r6, .ref r7, .int (nI N), .int (nI k), .int us, .int ca])), (r0, .inr (6, [.ref a0])), (a0, .inl (cI, N, .inl f0)), (r1, .inr (6, [.ref a1])), (a1, .inl (cI, N, .inl f1)), (r7, .inr (6, [.ref a7])), (a7, .inl (cI, 11, .inl (rPut 11 f7 (nI wi) (nI p))))])
              rw [show (rPut 11 f7 (nI wi) (nI p) : Nat → Int32) = upd f7 wi (nI p) from rPut_nI hw11 (by omega)] at hH
              refine lv_iload_n zx zy dX5_leastOf_56 rfl (lv_at hl 2 rfl) ?_
              exact fx_iret (v := nI p) hQ hC hr hlk hH dX5_leastOf_57 rfl (Nat.le_of_ble_eq_true rfl) (Nat.le_of_ble_eq_true rfl) (upd f7 wi (nI p)) rfl (by rw [hpe]; exact ⟨rfl, rfl⟩)
            · skip
              refine lv_iinc (v := nI (p + 1)) (lv' := [(2, .int (nI (p + 1))), (0, .ref h), (1, .int who)]) zx zy dX5_leastOf_39 hl (k := 2) rfl (nI_1 _) (by decide) rfl (fun ls hl => ?_)
              refine lv_goto (tgt := 11) zx zy dX5_leastOf_42 (by decide) ?_
              exact ih11 (p + 1) (by first | assumption | omega) (lt_next hf (by first | exact hW_f1 hg21 | exact hW_f2 hwi c36)) _ _ _ (by omega) hH (lv_sub hl [1, 2, 0] rfl)
        · skip
          have hH := (hH : fx_H zA zs.heap H locs D [(h, .inr (5, [.ref r0, .ref r1, .ref r2, .ref r3, .ref r4, .ref r5, .ref r6, .ref r7, .int (nI N), .int (nI k), .int us, .int ca])), (r0, .inr (6, [.ref a0])), (a0, .inl (cI, N, .inl f0)), (r1, .inr (6, [.ref a1])), (a1, .inl (cI, N, .inl f1)), (r7, .inr (6, [.ref a7])), (a7, .inl (cI, 11, .inl f7))])
          refine lv_if_eq (tgt := 39) zx zy dX5_leastOf_24 (by decide) (fun c24 => ?_) (fun c24 => ?_)
          · skip
            refine lv_iinc (v := nI (p + 1)) (lv' := [(2, .int (nI (p + 1))), (0, .ref h), (1, .int who)]) zx zy dX5_leastOf_39 hl (k := 2) rfl (nI_1 _) (by decide) rfl (fun ls hl => ?_)
            refine lv_goto (tgt := 11) zx zy dX5_leastOf_42 (by decide) ?_
            exact ih11 (p + 1) (by first | assumption | omega) (lt_next hf (by first | exact hW_f1 hg21 | exact hW_f2 hwi c36)) _ _ _ (by omega) hH (lv_sub hl [1, 2, 0] rfl)
          · exact absurd c24 (by decide)
  exact L11 _ s0 (hs0) (hs1) _ _ _ (Nat.lt_succ_self _) hH (lv_sub hl [1, 2, 0] rfl)
set_option maxHeartbeats 4000000 in
set_option maxRecDepth 100000 in
theorem k_X5_pass (l : Launch) (D : va_G) (cI cZ : ClassId) (h : Nat) (r0 : Nat) (r1 : Nat) (r2 : Nat) (r3 : Nat) (r4 : Nat) (r5 : Nat) (r6 : Nat) (r7 : Nat) (N : Nat) (k : Nat) (us : Int32) (ca : Int32) (a0 : Nat) (a1 : Nat) (a5 : Nat) (a6 : Nat) (a7 : Nat) (f0 : Nat → Int32) (f1 : Nat → Int32) (f5 : Nat → Int32) (f6 : Nat → Int32) (f7 : Nat → Int32) (fr : Int32) (to : Int32) (wf : Nat) (wt : Nat) (n : Nat) (hwf : fr + 1 = nI wf) (hwt : to + 1 = nI wt) (hf11 : wf < 11) (ht11 : wt < 11) (hne : wf ≠ wt) (hkN : k ≤ N) (hN : N ≤ 4000) (hok : pOk f0 f1 f6 f7 k) (hcnt : n ≤ cntP (hW f0 f1 wf) k) : fx_CV l D cI cZ yX5_pass wsX5_pass ({ frames := 3, cells := 0, slots := 0, locals := 64 }) [.ref h, .int fr, .int to, .int (nI n)] [(h, .inr (5, [.ref r0, .ref r1, .ref r2, .ref r3, .ref r4, .ref r5, .ref r6, .ref r7, .int (nI N), .int (nI k), .int us, .int ca])), (r0, .inr (6, [.ref a0])), (a0, .inl (cI, N, .inl f0)), (r1, .inr (6, [.ref a1])), (a1, .inl (cI, N, .inl f1)), (r5, .inr (6, [.ref a5])), (a5, .inl (cI, N, .inl f5)), (r6, .inr (6, [.ref a6])), (a6, .inl (cI, 11, .inl f6)), (r7, .inr (6, [.ref a7])), (a7, .inl (cI, 11, .inl f7))] (fun (u : (Nat → Int32) × (Nat → Int32) × (Nat → Int32) × (Nat → Int32)) => [(h, .inr (5, [.ref r0, .ref r1, .ref r2, .ref r3, .ref r4, .ref r5, .ref r6, .ref r7, .int (nI N), .int (nI k), .int us, .int ca])), (r0, .inr (6, [.ref a0])), (a0, .inl (cI, N, .inl f0)), (r1, .inr (6, [.ref a1])), (a1, .inl (cI, N, .inl u.1)), (r5, .inr (6, [.ref a5])), (a5, .inl (cI, N, .inl u.2.1)), (r6, .inr (6, [.ref a6])), (a6, .inl (cI, 11, .inl u.2.2.1)), (r7, .inr (6, [.ref a7])), (a7, .inl (cI, 11, .inl u.2.2.2))]) (fun (u : (Nat → Int32) × (Nat → Int32) × (Nat → Int32) × (Nat → Int32)) => ((pOk f0 u.1 u.2.2.1 u.2.2.2 k) ∧ u.1 = (psI f0 k wf to n f1 f5).1 ∧ u.2.1 = (psI f0 k wf to n f1 f5).2)) := by
  refine fx_CV.of (ws' := (wsX5_pass).tail) cX5_pass 6 (by decide) rfl (Nat.le_of_ble_eq_true rfl) ?_
  intro zp ze zs zm za zb zt zc zA ls zQ hQ hC hr hlk hnm hA hH hl
  have zx := hC.1.1
  have zy := hC.1.2.1
  have hl : lv_has ls 6 [(0, .ref h), (1, .int fr), (2, .int to), (3, .int (nI n))] := hl
  refine lv_iconst (v := 0) zx zy dX5_pass_0 (by decide) ?_
  refine lv_topi (fun v1 ev1 => ?_)
  obtain rfl : v1 = nI 0 := ev1.trans (rfl)
  refine lv_istore (lv' := [(4, .int (nI 0)), (0, .ref h), (1, .int fr), (2, .int to), (3, .int (nI n))]) zx zy dX5_pass_1 hl (by decide) rfl (fun ls hl => ?_)
  have L3 : ∀ (fu : Nat) (i : Nat) (ho : Nat → Int32) (mv : Nat → Int32) (sr : Nat → Int32) (hi : i ≤ n) (hG : psI f0 k wf to (n - i) ho mv = psI f0 k wf to n f1 f5) (hsr : sOk f0 ho sr k) (hc : ∀ wi, wi < 11 → cntP (hW f0 ho wi) k + (if wi = wf then i else 0) = cntP (hW f0 f1 wi) k + (if wi = wt then i else 0)) (H : Heap) (locs : List Loc) (ls : Array Slot), n - i < fu → fx_H zA zs.heap H locs D [(h, .inr (5, [.ref r0, .ref r1, .ref r2, .ref r3, .ref r4, .ref r5, .ref r6, .ref r7, .int (nI N), .int (nI k), .int us, .int ca])), (r0, .inr (6, [.ref a0])), (a0, .inl (cI, N, .inl f0)), (r1, .inr (6, [.ref a1])), (a1, .inl (cI, N, .inl ho)), (r5, .inr (6, [.ref a5])), (a5, .inl (cI, N, .inl mv)), (r6, .inr (6, [.ref a6])), (a6, .inl (cI, 11, .inl f6)), (r7, .inr (6, [.ref a7])), (a7, .inl (cI, 11, .inl sr))] → lv_has ls 6 [(0, .ref h), (1, .int fr), (2, .int to), (3, .int (nI n)), (4, .int (nI i))] → W zp l ze ({ frames := 3, cells := 0, slots := 0, locals := 64 }) zs zm za zb zt zc H locs (0) (0) zQ (F0 zm 3 ls []) := by
    intro fu
    induction fu with
    | zero => intro i ho mv sr hi hG hsr hc H locs ls hfu; exact absurd hfu (Nat.not_lt_zero _)
    | succ fu ih3 =>
      intro i ho mv sr hi hG hsr hc H locs ls hfu3 hH hl
      refine lv_iload zx zy dX5_pass_3 (lv_at hl 4 rfl) ?_
      refine lv_iload_n zx zy dX5_pass_5 rfl (lv_at hl 3 rfl) ?_
      refine lv_icmp_ge (tgt := 67) zx zy dX5_pass_6 (by decide) (fun c6 => ?_) (fun c6 => ?_)
      · skip
        have hin : i = n := Nat.le_antisymm hi (fx_le_of c6 (by have := cntP_le (hW f0 f1 wf) k; omega) (by have := cntP_le (hW f0 f1 wf) k; omega))
        refine lv_aload_n zx zy dX5_pass_67 rfl (lv_at hl 0 rfl) ?_
        refine fx_get (C := RX5) (T := TX5) (N := 12) hC (fun _ h => List.mem_cons_of_mem _ (List.mem_append_left _ (List.mem_append_right _ h))) hH 0 rfl rfl 6 (by decide) (by decide +kernel) rfl dX5_pass_68 ?_
        refine lv_iload_n zx zy dX5_pass_71 rfl (lv_at hl 1 rfl) ?_
        refine lv_iconst (v := 1) zx zy dX5_pass_72 (by decide) ?_
        refine lv_iadd zx zy dX5_pass_73 ?_
        refine lv_topi (fun v2 ev2 => ?_)
        obtain rfl : v2 = nI wf := ev2.trans (hwf)
        refine lv_iload_n zx zy dX5_pass_74 rfl (lv_at hl 3 rfl) ?_
        refine lv_ineg zx zy dX5_pass_75 ?_
        refine fx_cVv (n := 2) (As := [.int (nI wf), .int (-(nI n))]) (b := r6) (rest := []) (fun (u : (Nat → Int32)) => [(h, .inr (5, [.ref r0, .ref r1, .ref r2, .ref r3, .ref r4, .ref r5, .ref r6, .ref r7, .int (nI N), .int (nI k), .int us, .int ca])), (r0, .inr (6, [.ref a0])), (a0, .inl (cI, N, .inl f0)), (r1, .inr (6, [.ref a1])), (a1, .inl (cI, N, .inl ho)), (r5, .inr (6, [.ref a5])), (a5, .inl (cI, N, .inl mv)), (r6, .inr (6, [.ref a6])), (a6, .inl (cI, 11, .inl u)), (r7, .inr (6, [.ref a7])), (a7, .inl (cI, 11, .inl sr))]) hC hA hH (k_X6_add l D cI cZ r6 a6 11 f6 (nI wf) (-(nI n)) (by first | assumption | omega)) [7, 8] [0, 1, 2, 3, 4, 5, 6, 9, 10] [0, 1, 2, 3, 4, 5, 6, 9, 10, 7, 8] [(h, .inr (5, [.ref r0, .ref r1, .ref r2, .ref r3, .ref r4, .ref r5, .ref r6, .ref r7, .int (nI N), .int (nI k), .int us, .int ca])), (r0, .inr (6, [.ref a0])), (a0, .inl (cI, N, .inl f0)), (r1, .inr (6, [.ref a1])), (a1, .inl (cI, N, .inl ho)), (r5, .inr (6, [.ref a5])), (a5, .inl (cI, N, .inl mv)), (r7, .inr (6, [.ref a7])), (a7, .inl (cI, 11, .inl sr))] rfl rfl (by decide) (by decide) (fun _ => rfl) rfl gX5_pass_X6_add (by decide +kernel) ⟨Nat.le_of_ble_eq_true rfl, Nat.le_of_ble_eq_true rfl⟩ 0 rfl rfl rfl rfl rfl hl.1 (Nat.le_of_ble_eq_true rfl) ⟨Nat.le_of_ble_eq_true rfl, Nat.le_of_ble_eq_true rfl⟩ dX5_pass_76 (fun u H locs hw76 hH => ?_)
        obtain ⟨u4, rfl⟩ : ∃ z, z = u := ⟨_, rfl⟩
        obtain rfl : u4 = rPut 11 f6 (nI wf) (rAt 11 f6 (nI wf) + (-(nI n))) := hw76
        have hH := (hH : fx_H zA zs.heap H locs D [(h, .inr (5, [.ref r0, .ref r1, .ref r2, .ref r3, .ref r4, .ref r5, .ref r6, .ref r7, .int (nI N), .int (nI k), .int us, .int ca])), (r0, .inr (6, [.ref a0])), (a0, .inl (cI, N, .inl f0)), (r1, .inr (6, [.ref a1])), (a1, .inl (cI, N, .inl ho)), (r5, .inr (6, [.ref a5])), (a5, .inl (cI, N, .inl mv)), (r6, .inr (6, [.ref a6])), (a6, .inl (cI, 11, .inl (rPut 11 f6 (nI wf) (rAt 11 f6 (nI wf) + (-(nI n)))))), (r7, .inr (6, [.ref a7])), (a7, .inl (cI, 11, .inl sr))])
        rw [show (rPut 11 f6 (nI wf) (rAt 11 f6 (nI wf) + (-(nI n))) : Nat → Int32) = upd f6 wf (f6 wf + -nI n) from rAdd_nI hf11 (by omega)] at hH
        refine lv_aload_n zx zy dX5_pass_79 rfl (lv_at hl 0 rfl) ?_
        refine fx_get (C := RX5) (T := TX5) (N := 12) hC (fun _ h => List.mem_cons_of_mem _ (List.mem_append_left _ (List.mem_append_right _ h))) hH 0 rfl rfl 6 (by decide) (by decide +kernel) rfl dX5_pass_80 ?_
        refine lv_iload_n zx zy dX5_pass_83 rfl (lv_at hl 2 rfl) ?_
        refine lv_iconst (v := 1) zx zy dX5_pass_84 (by decide) ?_
        refine lv_iadd zx zy dX5_pass_85 ?_
        refine lv_topi (fun v5 ev5 => ?_)
        obtain rfl : v5 = nI wt := ev5.trans (hwt)
        refine lv_iload_n zx zy dX5_pass_86 rfl (lv_at hl 3 rfl) ?_
        refine fx_cVv (n := 2) (As := [.int (nI wt), .int (nI n)]) (b := r6) (rest := []) (fun (u : (Nat → Int32)) => [(h, .inr (5, [.ref r0, .ref r1, .ref r2, .ref r3, .ref r4, .ref r5, .ref r6, .ref r7, .int (nI N), .int (nI k), .int us, .int ca])), (r0, .inr (6, [.ref a0])), (a0, .inl (cI, N, .inl f0)), (r1, .inr (6, [.ref a1])), (a1, .inl (cI, N, .inl ho)), (r5, .inr (6, [.ref a5])), (a5, .inl (cI, N, .inl mv)), (r6, .inr (6, [.ref a6])), (a6, .inl (cI, 11, .inl u)), (r7, .inr (6, [.ref a7])), (a7, .inl (cI, 11, .inl sr))]) hC hA hH (k_X6_add l D cI cZ r6 a6 11 (upd f6 wf (f6 wf + -nI n)) (nI wt) (nI n) (by first | assumption | omega)) [7, 8] [0, 1, 2, 3, 4, 5, 6, 9, 10] [0, 1, 2, 3, 4, 5, 6, 9, 10, 7, 8] [(h, .inr (5, [.ref r0, .ref r1, .ref r2, .ref r3, .ref r4, .ref r5, .ref r6, .ref r7, .int (nI N), .int (nI k), .int us, .int ca])), (r0, .inr (6, [.ref a0])), (a0, .inl (cI, N, .inl f0)), (r1, .inr (6, [.ref a1])), (a1, .inl (cI, N, .inl ho)), (r5, .inr (6, [.ref a5])), (a5, .inl (cI, N, .inl mv)), (r7, .inr (6, [.ref a7])), (a7, .inl (cI, 11, .inl sr))] rfl rfl (by decide) (by decide) (fun _ => rfl) rfl gX5_pass_X6_add (by decide +kernel) ⟨Nat.le_of_ble_eq_true rfl, Nat.le_of_ble_eq_true rfl⟩ 0 rfl rfl rfl rfl rfl hl.1 (Nat.le_of_ble_eq_true rfl) ⟨Nat.le_of_ble_eq_true rfl, Nat.le_of_ble_eq_true rfl⟩ dX5_pass_87 (fun u H locs hw87 hH => ?_)
        obtain ⟨u7, rfl⟩ : ∃ z, z = u := ⟨_, rfl⟩
        obtain rfl : u7 = rPut 11 (upd f6 wf (f6 wf + -nI n)) (nI wt) (rAt 11 (upd f6 wf (f6 wf + -nI n)) (nI wt) + (nI n)) := hw87
        have hH := (hH : fx_H zA zs.heap H locs D [(h, .inr (5, [.ref r0, .ref r1, .ref r2, .ref r3, .ref r4, .ref r5, .ref r6, .ref r7, .int (nI N), .int (nI k), .int us, .int ca])), (r0, .inr (6, [.ref a0])), (a0, .inl (cI, N, .inl f0)), (r1, .inr (6, [.ref a1])), (a1, .inl (cI, N, .inl ho)), (r5, .inr (6, [.ref a5])), (a5, .inl (cI, N, .inl mv)), (r6, .inr (6, [.ref a6])), (a6, .inl (cI, 11, .inl (rPut 11 (upd f6 wf (f6 wf + -nI n)) (nI wt) (rAt 11 (upd f6 wf (f6 wf + -nI n)) (nI wt) + (nI n))))), (r7, .inr (6, [.ref a7])), (a7, .inl (cI, 11, .inl sr))])
        rw [show (rPut 11 (upd f6 wf (f6 wf + -nI n)) (nI wt) (rAt 11 (upd f6 wf (f6 wf + -nI n)) (nI wt) + (nI n)) : Nat → Int32) = upd (upd f6 wf (f6 wf + -nI n)) wt (f6 wt + nI n) from by rw [rAdd_nI ht11 (by omega), pk_un (Ne.symm hne)]] at hH
        exact fx_vret hQ hC hr hlk hH dX5_pass_90 (Nat.le_of_ble_eq_true rfl) (Nat.le_of_ble_eq_true rfl) ((ho, mv, upd (upd f6 wf (f6 wf + -nI n)) wt (f6 wt + nI n), sr)) rfl (⟨pOk_pass hok hsr (by subst hin; exact hc) hne hcnt, by rw [← hG, hin, Nat.sub_self]; exact ⟨rfl, rfl⟩⟩)
      · skip
        have hlt : i < n := fx_lt_of c6 (by have := cntP_le (hW f0 f1 wf) k; omega)
        have hc1 := hc wf hf11
        have hpos : 0 < cntP (hW f0 ho wf) k := by rw [if_pos rfl, if_neg hne] at hc1; omega
        have hpk := fsP_lt hpos
        have hpt := fsP_at hpos
        have hc2 : ∀ wi, wi < 11 → cntP (hW f0 (upd ho (fsP (hW f0 ho wf) k 0) to) wi) k + (if wi = wf then i + 1 else 0) = cntP (hW f0 f1 wi) k + (if wi = wt then i + 1 else 0) := by
          intro wi hwi
          have a1 := cnt_pass hpk hpt hwt hne hf11 ht11 wi hwi
          have a2 := hc wi hwi
          by_cases e1 : wi = wf <;> by_cases e2 : wi = wt <;> simp only [e1, e2, if_true, if_false, hne, Ne.symm hne] at a1 a2 ⊢ <;> first | omega | exact absurd (e1.symm.trans e2) hne
        refine lv_aload_n zx zy dX5_pass_9 rfl (lv_at hl 0 rfl) ?_
        refine lv_iload_n zx zy dX5_pass_10 rfl (lv_at hl 1 rfl) ?_
        refine fx_cVi (n := 1) (As := [.int fr]) (b := h) (rest := []) (fun (u : (Nat → Int32)) => [(h, .inr (5, [.ref r0, .ref r1, .ref r2, .ref r3, .ref r4, .ref r5, .ref r6, .ref r7, .int (nI N), .int (nI k), .int us, .int ca])), (r0, .inr (6, [.ref a0])), (a0, .inl (cI, N, .inl f0)), (r1, .inr (6, [.ref a1])), (a1, .inl (cI, N, .inl ho)), (r5, .inr (6, [.ref a5])), (a5, .inl (cI, N, .inl mv)), (r6, .inr (6, [.ref a6])), (a6, .inl (cI, 11, .inl f6)), (r7, .inr (6, [.ref a7])), (a7, .inl (cI, 11, .inl u))]) hC hA hH (k_X5_leastOf l D cI cZ h r0 r1 r2 r3 r4 r5 r6 r7 N k us ca a0 a1 a7 f0 ho sr fr wf hwf hf11 (by first | assumption | omega) (by first | assumption | omega) (by first | assumption | omega)) [0, 1, 2, 3, 4, 9, 10] [5, 6, 7, 8] [4, 5, 6, 7, 8, 0, 1, 2, 3, 9, 10] [(r5, .inr (6, [.ref a5])), (a5, .inl (cI, N, .inl mv)), (r6, .inr (6, [.ref a6])), (a6, .inl (cI, 11, .inl f6))] rfl rfl (by decide) (by decide) (fun _ => rfl) rfl gX5_pass_X5_leastOf (by decide +kernel) ⟨Nat.le_of_ble_eq_true rfl, Nat.le_of_ble_eq_true rfl⟩ 0 rfl rfl rfl rfl rfl hl.1 (Nat.le_of_ble_eq_true rfl) ⟨Nat.le_of_ble_eq_true rfl, Nat.le_of_ble_eq_true rfl⟩ dX5_pass_11 (fun r8 u H locs hw11 hH => ?_)
        obtain ⟨u9, rfl⟩ : ∃ z, z = u := ⟨_, rfl⟩
        obtain ⟨e10, e11⟩ := hw11
        obtain rfl : r8 = nI (fsP (hW f0 ho wf) k 0) := e10
        obtain rfl : u9 = upd sr wf (nI (fsP (hW f0 ho wf) k 0)) := e11
        have hH := (hH : fx_H zA zs.heap H locs D [(h, .inr (5, [.ref r0, .ref r1, .ref r2, .ref r3, .ref r4, .ref r5, .ref r6, .ref r7, .int (nI N), .int (nI k), .int us, .int ca])), (r0, .inr (6, [.ref a0])), (a0, .inl (cI, N, .inl f0)), (r1, .inr (6, [.ref a1])), (a1, .inl (cI, N, .inl ho)), (r5, .inr (6, [.ref a5])), (a5, .inl (cI, N, .inl mv)), (r6, .inr (6, [.ref a6])), (a6, .inl (cI, 11, .inl f6)), (r7, .inr (6, [.ref a7])), (a7, .inl (cI, 11, .inl (upd sr wf (nI (fsP (hW f0 ho wf) k 0)))))])
        refine lv_istore (lv' := [(5, .int (nI (fsP (hW f0 ho wf) k 0))), (0, .ref h), (1, .int fr), (2, .int to), (3, .int (nI n)), (4, .int (nI i))]) zx zy dX5_pass_14 hl (by decide) rfl (fun ls hl => ?_)
        refine lv_aload_n zx zy dX5_pass_16 rfl (lv_at hl 1 rfl) ?_
        refine fx_get (C := RX5) (T := TX5) (N := 12) hC (fun _ h => List.mem_cons_of_mem _ (List.mem_append_left _ (List.mem_append_right _ h))) hH 0 rfl rfl 1 (by decide) (by decide +kernel) rfl dX5_pass_17 ?_
        refine lv_iload zx zy dX5_pass_20 (lv_at hl 0 rfl) ?_
        refine lv_iload_n zx zy dX5_pass_22 rfl (lv_at hl 3 rfl) ?_
        refine fx_cVv (n := 2) (As := [.int (nI (fsP (hW f0 ho wf) k 0)), .int to]) (b := r1) (rest := []) (fun (u : (Nat → Int32)) => [(h, .inr (5, [.ref r0, .ref r1, .ref r2, .ref r3, .ref r4, .ref r5, .ref r6, .ref r7, .int (nI N), .int (nI k), .int us, .int ca])), (r0, .inr (6, [.ref a0])), (a0, .inl (cI, N, .inl f0)), (r1, .inr (6, [.ref a1])), (a1, .inl (cI, N, .inl u)), (r5, .inr (6, [.ref a5])), (a5, .inl (cI, N, .inl mv)), (r6, .inr (6, [.ref a6])), (a6, .inl (cI, 11, .inl f6)), (r7, .inr (6, [.ref a7])), (a7, .inl (cI, 11, .inl (upd sr wf (nI (fsP (hW f0 ho wf) k 0)))))]) hC hA hH (k_X6_put l D cI cZ r1 a1 N ho (nI (fsP (hW f0 ho wf) k 0)) to (by first | assumption | omega)) [3, 4] [0, 1, 2, 5, 6, 7, 8, 9, 10] [0, 1, 2, 9, 10, 3, 4, 5, 6, 7, 8] [(h, .inr (5, [.ref r0, .ref r1, .ref r2, .ref r3, .ref r4, .ref r5, .ref r6, .ref r7, .int (nI N), .int (nI k), .int us, .int ca])), (r0, .inr (6, [.ref a0])), (a0, .inl (cI, N, .inl f0)), (r5, .inr (6, [.ref a5])), (a5, .inl (cI, N, .inl mv)), (r6, .inr (6, [.ref a6])), (a6, .inl (cI, 11, .inl f6)), (r7, .inr (6, [.ref a7])), (a7, .inl (cI, 11, .inl (upd sr wf (nI (fsP (hW f0 ho wf) k 0)))))] rfl rfl (by decide) (by decide) (fun _ => rfl) rfl gX5_pass_X6_put (by decide +kernel) ⟨Nat.le_of_ble_eq_true rfl, Nat.le_of_ble_eq_true rfl⟩ 0 rfl rfl rfl rfl rfl hl.1 (Nat.le_of_ble_eq_true rfl) ⟨Nat.le_of_ble_eq_true rfl, Nat.le_of_ble_eq_true rfl⟩ dX5_pass_23 (fun u H locs hw23 hH => ?_)
        obtain ⟨u13, rfl⟩ : ∃ z, z = u := ⟨_, rfl⟩
        obtain rfl : u13 = rPut N ho (nI (fsP (hW f0 ho wf) k 0)) to := hw23
        have hH := (hH : fx_H zA zs.heap H locs D [(h, .inr (5, [.ref r0, .ref r1, .ref r2, .ref r3, .ref r4, .ref r5, .ref r6, .ref r7, .int (nI N), .int (nI k), .int us, .int ca])), (r0, .inr (6, [.ref a0])), (a0, .inl (cI, N, .inl f0)), (r1, .inr (6, [.ref a1])), (a1, .inl (cI, N, .inl (rPut N ho (nI (fsP (hW f0 ho wf) k 0)) to))), (r5, .inr (6, [.ref a5])), (a5, .inl (cI, N, .inl mv)), (r6, .inr (6, [.ref a6])), (a6, .inl (cI, 11, .inl f6)), (r7, .inr (6, [.ref a7])), (a7, .inl (cI, 11, .inl (upd sr wf (nI (fsP (hW f0 ho wf) k 0)))))])
        rw [show (rPut N ho (nI (fsP (hW f0 ho wf) k 0)) to : Nat → Int32) = upd ho (fsP (hW f0 ho wf) k 0) to from rPut_nI (by omega) (by omega)] at hH
        refine lv_aload_n zx zy dX5_pass_26 rfl (lv_at hl 1 rfl) ?_
        refine fx_get (C := RX5) (T := TX5) (N := 12) hC (fun _ h => List.mem_cons_of_mem _ (List.mem_append_left _ (List.mem_append_right _ h))) hH 0 rfl rfl 5 (by decide) (by decide +kernel) rfl dX5_pass_27 ?_
        refine lv_iload zx zy dX5_pass_30 (lv_at hl 0 rfl) ?_
        refine lv_iconst (v := 1) zx zy dX5_pass_32 (by decide) ?_
        refine fx_cVv (n := 2) (As := [.int (nI (fsP (hW f0 ho wf) k 0)), .int 1]) (b := r5) (rest := []) (fun (u : (Nat → Int32)) => [(h, .inr (5, [.ref r0, .ref r1, .ref r2, .ref r3, .ref r4, .ref r5, .ref r6, .ref r7, .int (nI N), .int (nI k), .int us, .int ca])), (r0, .inr (6, [.ref a0])), (a0, .inl (cI, N, .inl f0)), (r1, .inr (6, [.ref a1])), (a1, .inl (cI, N, .inl (upd ho (fsP (hW f0 ho wf) k 0) to))), (r5, .inr (6, [.ref a5])), (a5, .inl (cI, N, .inl u)), (r6, .inr (6, [.ref a6])), (a6, .inl (cI, 11, .inl f6)), (r7, .inr (6, [.ref a7])), (a7, .inl (cI, 11, .inl (upd sr wf (nI (fsP (hW f0 ho wf) k 0)))))]) hC hA hH (k_X6_add l D cI cZ r5 a5 N mv (nI (fsP (hW f0 ho wf) k 0)) 1 (by first | assumption | omega)) [5, 6] [0, 1, 2, 3, 4, 7, 8, 9, 10] [0, 1, 2, 3, 4, 9, 10, 5, 6, 7, 8] [(h, .inr (5, [.ref r0, .ref r1, .ref r2, .ref r3, .ref r4, .ref r5, .ref r6, .ref r7, .int (nI N), .int (nI k), .int us, .int ca])), (r0, .inr (6, [.ref a0])), (a0, .inl (cI, N, .inl f0)), (r1, .inr (6, [.ref a1])), (a1, .inl (cI, N, .inl (upd ho (fsP (hW f0 ho wf) k 0) to))), (r6, .inr (6, [.ref a6])), (a6, .inl (cI, 11, .inl f6)), (r7, .inr (6, [.ref a7])), (a7, .inl (cI, 11, .inl (upd sr wf (nI (fsP (hW f0 ho wf) k 0)))))] rfl rfl (by decide) (by decide) (fun _ => rfl) rfl gX5_pass_X6_add (by decide +kernel) ⟨Nat.le_of_ble_eq_true rfl, Nat.le_of_ble_eq_true rfl⟩ 0 rfl rfl rfl rfl rfl hl.1 (Nat.le_of_ble_eq_true rfl) ⟨Nat.le_of_ble_eq_true rfl, Nat.le_of_ble_eq_true rfl⟩ dX5_pass_33 (fun u H locs hw33 hH => ?_)
        obtain ⟨u15, rfl⟩ : ∃ z, z = u := ⟨_, rfl⟩
        obtain rfl : u15 = rPut N mv (nI (fsP (hW f0 ho wf) k 0)) (rAt N mv (nI (fsP (hW f0 ho wf) k 0)) + 1) := hw33
        have hH := (hH : fx_H zA zs.heap H locs D [(h, .inr (5, [.ref r0, .ref r1, .ref r2, .ref r3, .ref r4, .ref r5, .ref r6, .ref r7, .int (nI N), .int (nI k), .int us, .int ca])), (r0, .inr (6, [.ref a0])), (a0, .inl (cI, N, .inl f0)), (r1, .inr (6, [.ref a1])), (a1, .inl (cI, N, .inl (upd ho (fsP (hW f0 ho wf) k 0) to))), (r5, .inr (6, [.ref a5])), (a5, .inl (cI, N, .inl (rPut N mv (nI (fsP (hW f0 ho wf) k 0)) (rAt N mv (nI (fsP (hW f0 ho wf) k 0)) + 1)))), (r6, .inr (6, [.ref a6])), (a6, .inl (cI, 11, .inl f6)), (r7, .inr (6, [.ref a7])), (a7, .inl (cI, 11, .inl (upd sr wf (nI (fsP (hW f0 ho wf) k 0)))))])
        rw [show (rPut N mv (nI (fsP (hW f0 ho wf) k 0)) (rAt N mv (nI (fsP (hW f0 ho wf) k 0)) + 1) : Nat → Int32) = upd mv (fsP (hW f0 ho wf) k 0) (mv (fsP (hW f0 ho wf) k 0) + 1) from rAdd_nI (by omega) (by omega)] at hH
        refine lv_aload_n zx zy dX5_pass_36 rfl (lv_at hl 1 rfl) ?_
        refine fx_get (C := RX5) (T := TX5) (N := 12) hC (fun _ h => List.mem_cons_of_mem _ (List.mem_append_left _ (List.mem_append_right _ h))) hH 0 rfl rfl 7 (by decide) (by decide +kernel) rfl dX5_pass_37 ?_
        refine lv_iload_n zx zy dX5_pass_40 rfl (lv_at hl 3 rfl) ?_
        refine lv_iconst (v := 1) zx zy dX5_pass_41 (by decide) ?_
        refine lv_iadd zx zy dX5_pass_42 ?_
        refine lv_topi (fun v16 ev16 => ?_)
        obtain rfl : v16 = nI wt := ev16.trans (hwt)
        refine lv_aload_n zx zy dX5_pass_43 rfl (lv_at hl 1 rfl) ?_
        refine fx_get (C := RX5) (T := TX5) (N := 12) hC (fun _ h => List.mem_cons_of_mem _ (List.mem_append_left _ (List.mem_append_right _ h))) hH 0 rfl rfl 7 (by decide) (by decide +kernel) rfl dX5_pass_44 ?_
        refine lv_iload_n zx zy dX5_pass_47 rfl (lv_at hl 3 rfl) ?_
        refine lv_iconst (v := 1) zx zy dX5_pass_48 (by decide) ?_
        refine lv_iadd zx zy dX5_pass_49 ?_
        refine lv_topi (fun v17 ev17 => ?_)
        obtain rfl : v17 = nI wt := ev17.trans (hwt)
        refine fx_cVi (n := 1) (As := [.int (nI wt)]) (b := r7) (rest := [.int (nI wt), .ref r7]) (fun (u : Unit) => [(h, .inr (5, [.ref r0, .ref r1, .ref r2, .ref r3, .ref r4, .ref r5, .ref r6, .ref r7, .int (nI N), .int (nI k), .int us, .int ca])), (r0, .inr (6, [.ref a0])), (a0, .inl (cI, N, .inl f0)), (r1, .inr (6, [.ref a1])), (a1, .inl (cI, N, .inl (upd ho (fsP (hW f0 ho wf) k 0) to))), (r5, .inr (6, [.ref a5])), (a5, .inl (cI, N, .inl (upd mv (fsP (hW f0 ho wf) k 0) (mv (fsP (hW f0 ho wf) k 0) + 1)))), (r6, .inr (6, [.ref a6])), (a6, .inl (cI, 11, .inl f6)), (r7, .inr (6, [.ref a7])), (a7, .inl (cI, 11, .inl (upd sr wf (nI (fsP (hW f0 ho wf) k 0)))))]) hC hA hH (k_X6_at l D cI cZ r7 a7 11 (upd sr wf (nI (fsP (hW f0 ho wf) k 0))) (nI wt) (by first | assumption | omega)) [9, 10] [0, 1, 2, 3, 4, 5, 6, 7, 8] [0, 1, 2, 3, 4, 5, 6, 7, 8, 9, 10] [(h, .inr (5, [.ref r0, .ref r1, .ref r2, .ref r3, .ref r4, .ref r5, .ref r6, .ref r7, .int (nI N), .int (nI k), .int us, .int ca])), (r0, .inr (6, [.ref a0])), (a0, .inl (cI, N, .inl f0)), (r1, .inr (6, [.ref a1])), (a1, .inl (cI, N, .inl (upd ho (fsP (hW f0 ho wf) k 0) to))), (r5, .inr (6, [.ref a5])), (a5, .inl (cI, N, .inl (upd mv (fsP (hW f0 ho wf) k 0) (mv (fsP (hW f0 ho wf) k 0) + 1)))), (r6, .inr (6, [.ref a6])), (a6, .inl (cI, 11, .inl f6))] rfl rfl (by decide) (by decide) (fun _ => rfl) rfl gX5_pass_X6_at (by decide +kernel) ⟨Nat.le_of_ble_eq_true rfl, Nat.le_of_ble_eq_true rfl⟩ 0 rfl rfl rfl rfl rfl hl.1 (Nat.le_of_ble_eq_true rfl) ⟨Nat.le_of_ble_eq_true rfl, Nat.le_of_ble_eq_true rfl⟩ dX5_pass_50 (fun r18 u H locs hw50 hH => ?_)
        obtain rfl : r18 = rAt 11 (upd sr wf (nI (fsP (hW f0 ho wf) k 0))) (nI wt) := hw50
        have hH := (hH : fx_H zA zs.heap H locs D [(h, .inr (5, [.ref r0, .ref r1, .ref r2, .ref r3, .ref r4, .ref r5, .ref r6, .ref r7, .int (nI N), .int (nI k), .int us, .int ca])), (r0, .inr (6, [.ref a0])), (a0, .inl (cI, N, .inl f0)), (r1, .inr (6, [.ref a1])), (a1, .inl (cI, N, .inl (upd ho (fsP (hW f0 ho wf) k 0) to))), (r5, .inr (6, [.ref a5])), (a5, .inl (cI, N, .inl (upd mv (fsP (hW f0 ho wf) k 0) (mv (fsP (hW f0 ho wf) k 0) + 1)))), (r6, .inr (6, [.ref a6])), (a6, .inl (cI, 11, .inl f6)), (r7, .inr (6, [.ref a7])), (a7, .inl (cI, 11, .inl (upd sr wf (nI (fsP (hW f0 ho wf) k 0)))))])
        refine lv_topi (fun v19 ev19 => ?_)
        obtain rfl : v19 = sr wt := ev19.trans ((rAt_nI ht11 (by omega)).trans (pk_un (Ne.symm hne)))
        refine lv_iload zx zy dX5_pass_53 (lv_at hl 0 rfl) ?_
        refine fx_min hC hl.1 (by decide +kernel) (Nat.le_of_ble_eq_true rfl) (Nat.le_of_ble_eq_true rfl) (Nat.le_of_ble_eq_true rfl) (Nat.le_of_ble_eq_true rfl) dX5_pass_55 ?_
        refine fx_cVv (n := 2) (As := [.int (nI wt), .int (if nI (fsP (hW f0 ho wf) k 0) < sr wt then nI (fsP (hW f0 ho wf) k 0) else sr wt)]) (b := r7) (rest := []) (fun (u : (Nat → Int32)) => [(h, .inr (5, [.ref r0, .ref r1, .ref r2, .ref r3, .ref r4, .ref r5, .ref r6, .ref r7, .int (nI N), .int (nI k), .int us, .int ca])), (r0, .inr (6, [.ref a0])), (a0, .inl (cI, N, .inl f0)), (r1, .inr (6, [.ref a1])), (a1, .inl (cI, N, .inl (upd ho (fsP (hW f0 ho wf) k 0) to))), (r5, .inr (6, [.ref a5])), (a5, .inl (cI, N, .inl (upd mv (fsP (hW f0 ho wf) k 0) (mv (fsP (hW f0 ho wf) k 0) + 1)))), (r6, .inr (6, [.ref a6])), (a6, .inl (cI, 11, .inl f6)), (r7, .inr (6, [.ref a7])), (a7, .inl (cI, 11, .inl u))]) hC hA hH (k_X6_put l D cI cZ r7 a7 11 (upd sr wf (nI (fsP (hW f0 ho wf) k 0))) (nI wt) (if nI (fsP (hW f0 ho wf) k 0) < sr wt then nI (fsP (hW f0 ho wf) k 0) else sr wt) (by first | assumption | omega)) [9, 10] [0, 1, 2, 3, 4, 5, 6, 7, 8] [0, 1, 2, 3, 4, 5, 6, 7, 8, 9, 10] [(h, .inr (5, [.ref r0, .ref r1, .ref r2, .ref r3, .ref r4, .ref r5, .ref r6, .ref r7, .int (nI N), .int (nI k), .int us, .int ca])), (r0, .inr (6, [.ref a0])), (a0, .inl (cI, N, .inl f0)), (r1, .inr (6, [.ref a1])), (a1, .inl (cI, N, .inl (upd ho (fsP (hW f0 ho wf) k 0) to))), (r5, .inr (6, [.ref a5])), (a5, .inl (cI, N, .inl (upd mv (fsP (hW f0 ho wf) k 0) (mv (fsP (hW f0 ho wf) k 0) + 1)))), (r6, .inr (6, [.ref a6])), (a6, .inl (cI, 11, .inl f6))] rfl rfl (by decide) (by decide) (fun _ => rfl) rfl gX5_pass_X6_put (by decide +kernel) ⟨Nat.le_of_ble_eq_true rfl, Nat.le_of_ble_eq_true rfl⟩ 0 rfl rfl rfl rfl rfl hl.1 (Nat.le_of_ble_eq_true rfl) ⟨Nat.le_of_ble_eq_true rfl, Nat.le_of_ble_eq_true rfl⟩ dX5_pass_58 (fun u H locs hw58 hH => ?_)
        obtain ⟨u21, rfl⟩ : ∃ z, z = u := ⟨_, rfl⟩
        obtain rfl : u21 = rPut 11 (upd sr wf (nI (fsP (hW f0 ho wf) k 0))) (nI wt) (if nI (fsP (hW f0 ho wf) k 0) < sr wt then nI (fsP (hW f0 ho wf) k 0) else sr wt) := hw58
        have hH := (hH : fx_H zA zs.heap H locs D [(h, .inr (5, [.ref r0, .ref r1, .ref r2, .ref r3, .ref r4, .ref r5, .ref r6, .ref r7, .int (nI N), .int (nI k), .int us, .int ca])), (r0, .inr (6, [.ref a0])), (a0, .inl (cI, N, .inl f0)), (r1, .inr (6, [.ref a1])), (a1, .inl (cI, N, .inl (upd ho (fsP (hW f0 ho wf) k 0) to))), (r5, .inr (6, [.ref a5])), (a5, .inl (cI, N, .inl (upd mv (fsP (hW f0 ho wf) k 0) (mv (fsP (hW f0 ho wf) k 0) + 1)))), (r6, .inr (6, [.ref a6])), (a6, .inl (cI, 11, .inl f6)), (r7, .inr (6, [.ref a7])), (a7, .inl (cI, 11, .inl (rPut 11 (upd sr wf (nI (fsP (hW f0 ho wf) k 0))) (nI wt) (if nI (fsP (hW f0 ho wf) k 0) < sr wt then nI (fsP (hW f0 ho wf) k 0) else sr wt))))])
        rw [show (rPut 11 (upd sr wf (nI (fsP (hW f0 ho wf) k 0))) (nI wt) (if nI (fsP (hW f0 ho wf) k 0) < sr wt then nI (fsP (hW f0 ho wf) k 0) else sr wt) : Nat → Int32) = upd (upd sr wf (nI (fsP (hW f0 ho wf) k 0))) wt (if nI (fsP (hW f0 ho wf) k 0) < sr wt then nI (fsP (hW f0 ho wf) k 0) else sr wt) from rPut_nI ht11 (by omega)] at hH
        have hsr2 : sOk f0 (upd ho (fsP (hW f0 ho wf) k 0) to) (upd (upd sr wf (nI (fsP (hW f0 ho wf) k 0))) wt (if nI (fsP (hW f0 ho wf) k 0) < sr wt then nI (fsP (hW f0 ho wf) k 0) else sr wt)) k := by
          have := sOk_pass (sOk_least (wi := wf) hsr) (by omega) (Nat.le_of_lt hpk) ht11 hwt
          rwa [pk_un (Ne.symm hne)] at this
        refine lv_iinc (v := nI (i + 1)) (lv' := [(4, .int (nI (i + 1))), (5, .int (nI (fsP (hW f0 ho wf) k 0))), (0, .ref h), (1, .int fr), (2, .int to), (3, .int (nI n))]) zx zy dX5_pass_61 hl (k := 5) rfl (nI_1 _) (by decide) rfl (fun ls hl => ?_)
        refine lv_goto (tgt := 3) zx zy dX5_pass_64 (by decide) ?_
        exact ih3 (i + 1) (upd ho (fsP (hW f0 ho wf) k 0) to) (upd mv (fsP (hW f0 ho wf) k 0) (mv (fsP (hW f0 ho wf) k 0) + 1)) (upd (upd sr wf (nI (fsP (hW f0 ho wf) k 0))) wt (if nI (fsP (hW f0 ho wf) k 0) < sr wt then nI (fsP (hW f0 ho wf) k 0) else sr wt)) (by first | assumption | omega) ((psI_s hlt).symm.trans hG) (hsr2) (hc2) _ _ _ (by omega) hH (lv_sub hl [2, 3, 4, 5, 0] rfl)
  exact L3 _ 0 f1 f5 f7 (by first | assumption | omega) (rfl) (hok.s) (fun wi _ => by simp) _ _ _ (Nat.lt_succ_self _) hH (lv_sub hl [1, 2, 3, 4, 0] rfl)
set_option maxHeartbeats 4000000 in
set_option maxRecDepth 100000 in
theorem k_X5_use (l : Launch) (D : va_G) (cI cZ : ClassId) (h : Nat) (r0 : Nat) (r1 : Nat) (r2 : Nat) (r3 : Nat) (r4 : Nat) (r5 : Nat) (r6 : Nat) (r7 : Nat) (N : Nat) (k : Nat) (us : Int32) (ca : Int32) (a0 : Nat) (a1 : Nat) (a3 : Nat) (a6 : Nat) (a7 : Nat) (f0 : Nat → Int32) (f1 : Nat → Int32) (f3 : Nat → Int32) (f6 : Nat → Int32) (f7 : Nat → Int32) (who : Int32) (wi : Nat) (hwi : who + 1 = nI wi) (hw11 : wi < 11) (n : Nat) (y : Int32) (hkN : k ≤ N) (hN : N ≤ 4000) (hok : pOk f0 f1 f6 f7 k) (hcnt : n ≤ cntP (hW f0 f1 wi) k) : fx_CV l D cI cZ yX5_use wsX5_use ({ frames := 3, cells := 0, slots := 0, locals := 64 }) [.ref h, .int who, .int (nI n), .int y] [(h, .inr (5, [.ref r0, .ref r1, .ref r2, .ref r3, .ref r4, .ref r5, .ref r6, .ref r7, .int (nI N), .int (nI k), .int us, .int ca])), (r0, .inr (6, [.ref a0])), (a0, .inl (cI, N, .inl f0)), (r1, .inr (6, [.ref a1])), (a1, .inl (cI, N, .inl f1)), (r3, .inr (6, [.ref a3])), (a3, .inl (cI, N, .inl f3)), (r6, .inr (6, [.ref a6])), (a6, .inl (cI, 11, .inl f6)), (r7, .inr (6, [.ref a7])), (a7, .inl (cI, 11, .inl f7))] (fun (u : (Nat → Int32) × (Nat → Int32) × (Nat → Int32) × (Nat → Int32) × (Int32)) => [(h, .inr (5, [.ref r0, .ref r1, .ref r2, .ref r3, .ref r4, .ref r5, .ref r6, .ref r7, .int (nI N), .int (nI k), .int u.2.2.2.2, .int ca])), (r0, .inr (6, [.ref a0])), (a0, .inl (cI, N, .inl u.1)), (r1, .inr (6, [.ref a1])), (a1, .inl (cI, N, .inl f1)), (r3, .inr (6, [.ref a3])), (a3, .inl (cI, N, .inl u.2.1)), (r6, .inr (6, [.ref a6])), (a6, .inl (cI, 11, .inl u.2.2.1)), (r7, .inr (6, [.ref a7])), (a7, .inl (cI, 11, .inl u.2.2.2.1))]) (fun (u : (Nat → Int32) × (Nat → Int32) × (Nat → Int32) × (Nat → Int32) × (Int32)) => ((pOk u.1 f1 u.2.2.1 u.2.2.2.1 k) ∧ u.1 = (usI f1 k wi y n f0 f3).1 ∧ u.2.1 = (usI f1 k wi y n f0 f3).2 ∧ u.2.2.2.2 = us + nI n)) := by
  refine fx_CV.of (ws' := (wsX5_use).tail) cX5_use 6 (by decide) rfl (Nat.le_of_ble_eq_true rfl) ?_
  intro zp ze zs zm za zb zt zc zA ls zQ hQ hC hr hlk hnm hA hH hl
  have zx := hC.1.1
  have zy := hC.1.2.1
  have hl : lv_has ls 6 [(0, .ref h), (1, .int who), (2, .int (nI n)), (3, .int y)] := hl
  refine lv_iconst (v := 0) zx zy dX5_use_0 (by decide) ?_
  refine lv_topi (fun v1 ev1 => ?_)
  obtain rfl : v1 = nI 0 := ev1.trans (rfl)
  refine lv_istore (lv' := [(4, .int (nI 0)), (0, .ref h), (1, .int who), (2, .int (nI n)), (3, .int y)]) zx zy dX5_use_1 hl (by decide) rfl (fun ls hl => ?_)
  have L3 : ∀ (fu : Nat) (i : Nat) (st : Nat → Int32) (ui : Nat → Int32) (sr : Nat → Int32) (hi : i ≤ n) (hG : usI f1 k wi y (n - i) st ui = usI f1 k wi y n f0 f3) (hsr : sOk st f1 sr k) (hc : ∀ w, w < 11 → cntP (hW st f1 w) k + (if w = wi then i else 0) = cntP (hW f0 f1 w) k) (H : Heap) (locs : List Loc) (ls : Array Slot), n - i < fu → fx_H zA zs.heap H locs D [(h, .inr (5, [.ref r0, .ref r1, .ref r2, .ref r3, .ref r4, .ref r5, .ref r6, .ref r7, .int (nI N), .int (nI k), .int us, .int ca])), (r0, .inr (6, [.ref a0])), (a0, .inl (cI, N, .inl st)), (r1, .inr (6, [.ref a1])), (a1, .inl (cI, N, .inl f1)), (r3, .inr (6, [.ref a3])), (a3, .inl (cI, N, .inl ui)), (r6, .inr (6, [.ref a6])), (a6, .inl (cI, 11, .inl f6)), (r7, .inr (6, [.ref a7])), (a7, .inl (cI, 11, .inl sr))] → lv_has ls 6 [(0, .ref h), (1, .int who), (2, .int (nI n)), (3, .int y), (4, .int (nI i))] → W zp l ze ({ frames := 3, cells := 0, slots := 0, locals := 64 }) zs zm za zb zt zc H locs (0) (0) zQ (F0 zm 3 ls []) := by
    intro fu
    induction fu with
    | zero => intro i st ui sr hi hG hsr hc H locs ls hfu; exact absurd hfu (Nat.not_lt_zero _)
    | succ fu ih3 =>
      intro i st ui sr hi hG hsr hc H locs ls hfu3 hH hl
      refine lv_iload zx zy dX5_use_3 (lv_at hl 4 rfl) ?_
      refine lv_iload_n zx zy dX5_use_5 rfl (lv_at hl 2 rfl) ?_
      refine lv_icmp_ge (tgt := 42) zx zy dX5_use_6 (by decide) (fun c6 => ?_) (fun c6 => ?_)
      · skip
        have hin : i = n := Nat.le_antisymm hi (fx_le_of c6 (by have := cntP_le (hW f0 f1 wi) k; omega) (by have := cntP_le (hW f0 f1 wi) k; omega))
        refine lv_aload_n zx zy dX5_use_42 rfl (lv_at hl 0 rfl) ?_
        refine fx_get (C := RX5) (T := TX5) (N := 12) hC (fun _ h => List.mem_cons_of_mem _ (List.mem_append_left _ (List.mem_append_right _ h))) hH 0 rfl rfl 6 (by decide) (by decide +kernel) rfl dX5_use_43 ?_
        refine lv_iload_n zx zy dX5_use_46 rfl (lv_at hl 1 rfl) ?_
        refine lv_iconst (v := 1) zx zy dX5_use_47 (by decide) ?_
        refine lv_iadd zx zy dX5_use_48 ?_
        refine lv_topi (fun v2 ev2 => ?_)
        obtain rfl : v2 = nI wi := ev2.trans (hwi)
        refine lv_iload_n zx zy dX5_use_49 rfl (lv_at hl 2 rfl) ?_
        refine lv_ineg zx zy dX5_use_50 ?_
        refine fx_cVv (n := 2) (As := [.int (nI wi), .int (-(nI n))]) (b := r6) (rest := []) (fun (u : (Nat → Int32)) => [(h, .inr (5, [.ref r0, .ref r1, .ref r2, .ref r3, .ref r4, .ref r5, .ref r6, .ref r7, .int (nI N), .int (nI k), .int us, .int ca])), (r0, .inr (6, [.ref a0])), (a0, .inl (cI, N, .inl st)), (r1, .inr (6, [.ref a1])), (a1, .inl (cI, N, .inl f1)), (r3, .inr (6, [.ref a3])), (a3, .inl (cI, N, .inl ui)), (r6, .inr (6, [.ref a6])), (a6, .inl (cI, 11, .inl u)), (r7, .inr (6, [.ref a7])), (a7, .inl (cI, 11, .inl sr))]) hC hA hH (k_X6_add l D cI cZ r6 a6 11 f6 (nI wi) (-(nI n)) (by first | assumption | omega)) [7, 8] [0, 1, 2, 3, 4, 5, 6, 9, 10] [0, 1, 2, 3, 4, 5, 6, 9, 10, 7, 8] [(h, .inr (5, [.ref r0, .ref r1, .ref r2, .ref r3, .ref r4, .ref r5, .ref r6, .ref r7, .int (nI N), .int (nI k), .int us, .int ca])), (r0, .inr (6, [.ref a0])), (a0, .inl (cI, N, .inl st)), (r1, .inr (6, [.ref a1])), (a1, .inl (cI, N, .inl f1)), (r3, .inr (6, [.ref a3])), (a3, .inl (cI, N, .inl ui)), (r7, .inr (6, [.ref a7])), (a7, .inl (cI, 11, .inl sr))] rfl rfl (by decide) (by decide) (fun _ => rfl) rfl gX5_use_X6_add (by decide +kernel) ⟨Nat.le_of_ble_eq_true rfl, Nat.le_of_ble_eq_true rfl⟩ 0 rfl rfl rfl rfl rfl hl.1 (Nat.le_of_ble_eq_true rfl) ⟨Nat.le_of_ble_eq_true rfl, Nat.le_of_ble_eq_true rfl⟩ dX5_use_51 (fun u H locs hw51 hH => ?_)
        obtain ⟨u4, rfl⟩ : ∃ z, z = u := ⟨_, rfl⟩
        obtain rfl : u4 = rPut 11 f6 (nI wi) (rAt 11 f6 (nI wi) + (-(nI n))) := hw51
        have hH := (hH : fx_H zA zs.heap H locs D [(h, .inr (5, [.ref r0, .ref r1, .ref r2, .ref r3, .ref r4, .ref r5, .ref r6, .ref r7, .int (nI N), .int (nI k), .int us, .int ca])), (r0, .inr (6, [.ref a0])), (a0, .inl (cI, N, .inl st)), (r1, .inr (6, [.ref a1])), (a1, .inl (cI, N, .inl f1)), (r3, .inr (6, [.ref a3])), (a3, .inl (cI, N, .inl ui)), (r6, .inr (6, [.ref a6])), (a6, .inl (cI, 11, .inl (rPut 11 f6 (nI wi) (rAt 11 f6 (nI wi) + (-(nI n)))))), (r7, .inr (6, [.ref a7])), (a7, .inl (cI, 11, .inl sr))])
        rw [show (rPut 11 f6 (nI wi) (rAt 11 f6 (nI wi) + (-(nI n))) : Nat → Int32) = upd f6 wi (f6 wi + -nI n) from rAdd_nI hw11 (by omega)] at hH
        refine lv_aload_n zx zy dX5_use_54 rfl (lv_at hl 0 rfl) ?_
        refine lv_dup zx zy dX5_use_55 rfl ?_
        refine fx_get (C := RX5) (T := TX5) (N := 12) hC (fun _ h => List.mem_cons_of_mem _ (List.mem_append_left _ (List.mem_append_right _ h))) hH 0 rfl rfl 10 (by decide) (by decide +kernel) rfl dX5_use_56 ?_
        refine lv_iload_n zx zy dX5_use_59 rfl (lv_at hl 2 rfl) ?_
        refine lv_iadd zx zy dX5_use_60 ?_
        refine fx_put (C := RX5) (T := TX5) (N := 12) (ty := .int) (ws2 := [(h, .inr (5, [.ref r0, .ref r1, .ref r2, .ref r3, .ref r4, .ref r5, .ref r6, .ref r7, .int (nI N), .int (nI k), .int (us + (nI n)), .int ca])), (r0, .inr (6, [.ref a0])), (a0, .inl (cI, N, .inl st)), (r1, .inr (6, [.ref a1])), (a1, .inl (cI, N, .inl f1)), (r3, .inr (6, [.ref a3])), (a3, .inl (cI, N, .inl ui)), (r6, .inr (6, [.ref a6])), (a6, .inl (cI, 11, .inl (upd f6 wi (f6 wi + -nI n)))), (r7, .inr (6, [.ref a7])), (a7, .inl (cI, 11, .inl sr))]) hC (fun _ h => List.mem_cons_of_mem _ (List.mem_append_left _ (List.mem_append_right _ h))) tyX5_ok nmX5 hH 0 rfl rfl 10 (by decide) (by decide +kernel) rfl rfl rfl rfl (Nat.le_of_ble_eq_true rfl) rfl dX5_use_61 (fun H locs hH => ?_)
        exact fx_vret hQ hC hr hlk hH dX5_use_64 (Nat.le_of_ble_eq_true rfl) (Nat.le_of_ble_eq_true rfl) ((st, ui, upd f6 wi (f6 wi + -nI n), sr, us + (nI n))) rfl (⟨pOk_gone hok hsr (by subst hin; exact hc), by rw [← hG, hin, Nat.sub_self]; exact ⟨rfl, rfl, rfl⟩⟩)
      · skip
        have hlt : i < n := fx_lt_of c6 (by have := cntP_le (hW f0 f1 wi) k; omega)
        have hc1 := hc wi hw11
        have hpos : 0 < cntP (hW st f1 wi) k := by rw [if_pos rfl] at hc1; omega
        have hpk := fsP_lt hpos
        have hpt := fsP_at hpos
        have hc2 : ∀ w, w < 11 → cntP (hW (upd st (fsP (hW st f1 wi) k 0) 1) f1 w) k + (if w = wi then i + 1 else 0) = cntP (hW f0 f1 w) k := by
          intro w hw
          have a1 := cnt_gone (x := 1) hpk hpt (by decide) hw11 w hw
          have a2 := hc w hw
          by_cases e1 : w = wi <;> simp only [e1, if_true, if_false] at a1 a2 ⊢ <;> omega
        refine lv_aload_n zx zy dX5_use_9 rfl (lv_at hl 0 rfl) ?_
        refine lv_iload_n zx zy dX5_use_10 rfl (lv_at hl 1 rfl) ?_
        refine fx_cVi (n := 1) (As := [.int who]) (b := h) (rest := []) (fun (u : (Nat → Int32)) => [(h, .inr (5, [.ref r0, .ref r1, .ref r2, .ref r3, .ref r4, .ref r5, .ref r6, .ref r7, .int (nI N), .int (nI k), .int us, .int ca])), (r0, .inr (6, [.ref a0])), (a0, .inl (cI, N, .inl st)), (r1, .inr (6, [.ref a1])), (a1, .inl (cI, N, .inl f1)), (r3, .inr (6, [.ref a3])), (a3, .inl (cI, N, .inl ui)), (r6, .inr (6, [.ref a6])), (a6, .inl (cI, 11, .inl f6)), (r7, .inr (6, [.ref a7])), (a7, .inl (cI, 11, .inl u))]) hC hA hH (k_X5_leastOf l D cI cZ h r0 r1 r2 r3 r4 r5 r6 r7 N k us ca a0 a1 a7 st f1 sr who wi (by first | assumption | omega) (by first | assumption | omega) (by first | assumption | omega) (by first | assumption | omega) (by first | assumption | omega)) [0, 1, 2, 3, 4, 9, 10] [5, 6, 7, 8] [4, 5, 6, 7, 8, 0, 1, 2, 3, 9, 10] [(r3, .inr (6, [.ref a3])), (a3, .inl (cI, N, .inl ui)), (r6, .inr (6, [.ref a6])), (a6, .inl (cI, 11, .inl f6))] rfl rfl (by decide) (by decide) (fun _ => rfl) rfl gX5_use_X5_leastOf (by decide +kernel) ⟨Nat.le_of_ble_eq_true rfl, Nat.le_of_ble_eq_true rfl⟩ 0 rfl rfl rfl rfl rfl hl.1 (Nat.le_of_ble_eq_true rfl) ⟨Nat.le_of_ble_eq_true rfl, Nat.le_of_ble_eq_true rfl⟩ dX5_use_11 (fun r5 u H locs hw11 hH => ?_)
        obtain ⟨u6, rfl⟩ : ∃ z, z = u := ⟨_, rfl⟩
        obtain ⟨e7, e8⟩ := hw11
        obtain rfl : r5 = nI (fsP (hW st f1 wi) k 0) := e7
        obtain rfl : u6 = upd sr wi (nI (fsP (hW st f1 wi) k 0)) := e8
        have hH := (hH : fx_H zA zs.heap H locs D [(h, .inr (5, [.ref r0, .ref r1, .ref r2, .ref r3, .ref r4, .ref r5, .ref r6, .ref r7, .int (nI N), .int (nI k), .int us, .int ca])), (r0, .inr (6, [.ref a0])), (a0, .inl (cI, N, .inl st)), (r1, .inr (6, [.ref a1])), (a1, .inl (cI, N, .inl f1)), (r3, .inr (6, [.ref a3])), (a3, .inl (cI, N, .inl ui)), (r6, .inr (6, [.ref a6])), (a6, .inl (cI, 11, .inl f6)), (r7, .inr (6, [.ref a7])), (a7, .inl (cI, 11, .inl (upd sr wi (nI (fsP (hW st f1 wi) k 0)))))])
        refine lv_istore (lv' := [(5, .int (nI (fsP (hW st f1 wi) k 0))), (0, .ref h), (1, .int who), (2, .int (nI n)), (3, .int y), (4, .int (nI i))]) zx zy dX5_use_14 hl (by decide) rfl (fun ls hl => ?_)
        refine lv_aload_n zx zy dX5_use_16 rfl (lv_at hl 1 rfl) ?_
        refine fx_get (C := RX5) (T := TX5) (N := 12) hC (fun _ h => List.mem_cons_of_mem _ (List.mem_append_left _ (List.mem_append_right _ h))) hH 0 rfl rfl 0 (by decide) (by decide +kernel) rfl dX5_use_17 ?_
        refine lv_iload zx zy dX5_use_20 (lv_at hl 0 rfl) ?_
        refine lv_iconst (v := 1) zx zy dX5_use_22 (by decide) ?_
        refine fx_cVv (n := 2) (As := [.int (nI (fsP (hW st f1 wi) k 0)), .int 1]) (b := r0) (rest := []) (fun (u : (Nat → Int32)) => [(h, .inr (5, [.ref r0, .ref r1, .ref r2, .ref r3, .ref r4, .ref r5, .ref r6, .ref r7, .int (nI N), .int (nI k), .int us, .int ca])), (r0, .inr (6, [.ref a0])), (a0, .inl (cI, N, .inl u)), (r1, .inr (6, [.ref a1])), (a1, .inl (cI, N, .inl f1)), (r3, .inr (6, [.ref a3])), (a3, .inl (cI, N, .inl ui)), (r6, .inr (6, [.ref a6])), (a6, .inl (cI, 11, .inl f6)), (r7, .inr (6, [.ref a7])), (a7, .inl (cI, 11, .inl (upd sr wi (nI (fsP (hW st f1 wi) k 0)))))]) hC hA hH (k_X6_put l D cI cZ r0 a0 N st (nI (fsP (hW st f1 wi) k 0)) 1 (by first | assumption | omega)) [1, 2] [0, 3, 4, 5, 6, 7, 8, 9, 10] [0, 9, 10, 1, 2, 3, 4, 5, 6, 7, 8] [(h, .inr (5, [.ref r0, .ref r1, .ref r2, .ref r3, .ref r4, .ref r5, .ref r6, .ref r7, .int (nI N), .int (nI k), .int us, .int ca])), (r1, .inr (6, [.ref a1])), (a1, .inl (cI, N, .inl f1)), (r3, .inr (6, [.ref a3])), (a3, .inl (cI, N, .inl ui)), (r6, .inr (6, [.ref a6])), (a6, .inl (cI, 11, .inl f6)), (r7, .inr (6, [.ref a7])), (a7, .inl (cI, 11, .inl (upd sr wi (nI (fsP (hW st f1 wi) k 0)))))] rfl rfl (by decide) (by decide) (fun _ => rfl) rfl gX5_use_X6_put (by decide +kernel) ⟨Nat.le_of_ble_eq_true rfl, Nat.le_of_ble_eq_true rfl⟩ 0 rfl rfl rfl rfl rfl hl.1 (Nat.le_of_ble_eq_true rfl) ⟨Nat.le_of_ble_eq_true rfl, Nat.le_of_ble_eq_true rfl⟩ dX5_use_23 (fun u H locs hw23 hH => ?_)
        obtain ⟨u10, rfl⟩ : ∃ z, z = u := ⟨_, rfl⟩
        obtain rfl : u10 = rPut N st (nI (fsP (hW st f1 wi) k 0)) 1 := hw23
        have hH := (hH : fx_H zA zs.heap H locs D [(h, .inr (5, [.ref r0, .ref r1, .ref r2, .ref r3, .ref r4, .ref r5, .ref r6, .ref r7, .int (nI N), .int (nI k), .int us, .int ca])), (r0, .inr (6, [.ref a0])), (a0, .inl (cI, N, .inl (rPut N st (nI (fsP (hW st f1 wi) k 0)) 1))), (r1, .inr (6, [.ref a1])), (a1, .inl (cI, N, .inl f1)), (r3, .inr (6, [.ref a3])), (a3, .inl (cI, N, .inl ui)), (r6, .inr (6, [.ref a6])), (a6, .inl (cI, 11, .inl f6)), (r7, .inr (6, [.ref a7])), (a7, .inl (cI, 11, .inl (upd sr wi (nI (fsP (hW st f1 wi) k 0)))))])
        rw [show (rPut N st (nI (fsP (hW st f1 wi) k 0)) 1 : Nat → Int32) = upd st (fsP (hW st f1 wi) k 0) 1 from rPut_nI (by omega) (by omega)] at hH
        refine lv_aload_n zx zy dX5_use_26 rfl (lv_at hl 1 rfl) ?_
        refine fx_get (C := RX5) (T := TX5) (N := 12) hC (fun _ h => List.mem_cons_of_mem _ (List.mem_append_left _ (List.mem_append_right _ h))) hH 0 rfl rfl 3 (by decide) (by decide +kernel) rfl dX5_use_27 ?_
        refine lv_iload zx zy dX5_use_30 (lv_at hl 0 rfl) ?_
        refine lv_iload_n zx zy dX5_use_32 rfl (lv_at hl 4 rfl) ?_
        refine fx_cVv (n := 2) (As := [.int (nI (fsP (hW st f1 wi) k 0)), .int y]) (b := r3) (rest := []) (fun (u : (Nat → Int32)) => [(h, .inr (5, [.ref r0, .ref r1, .ref r2, .ref r3, .ref r4, .ref r5, .ref r6, .ref r7, .int (nI N), .int (nI k), .int us, .int ca])), (r0, .inr (6, [.ref a0])), (a0, .inl (cI, N, .inl (upd st (fsP (hW st f1 wi) k 0) 1))), (r1, .inr (6, [.ref a1])), (a1, .inl (cI, N, .inl f1)), (r3, .inr (6, [.ref a3])), (a3, .inl (cI, N, .inl u)), (r6, .inr (6, [.ref a6])), (a6, .inl (cI, 11, .inl f6)), (r7, .inr (6, [.ref a7])), (a7, .inl (cI, 11, .inl (upd sr wi (nI (fsP (hW st f1 wi) k 0)))))]) hC hA hH (k_X6_put l D cI cZ r3 a3 N ui (nI (fsP (hW st f1 wi) k 0)) y (by first | assumption | omega)) [5, 6] [0, 1, 2, 3, 4, 7, 8, 9, 10] [0, 1, 2, 3, 4, 9, 10, 5, 6, 7, 8] [(h, .inr (5, [.ref r0, .ref r1, .ref r2, .ref r3, .ref r4, .ref r5, .ref r6, .ref r7, .int (nI N), .int (nI k), .int us, .int ca])), (r0, .inr (6, [.ref a0])), (a0, .inl (cI, N, .inl (upd st (fsP (hW st f1 wi) k 0) 1))), (r1, .inr (6, [.ref a1])), (a1, .inl (cI, N, .inl f1)), (r6, .inr (6, [.ref a6])), (a6, .inl (cI, 11, .inl f6)), (r7, .inr (6, [.ref a7])), (a7, .inl (cI, 11, .inl (upd sr wi (nI (fsP (hW st f1 wi) k 0)))))] rfl rfl (by decide) (by decide) (fun _ => rfl) rfl gX5_use_X6_put (by decide +kernel) ⟨Nat.le_of_ble_eq_true rfl, Nat.le_of_ble_eq_true rfl⟩ 0 rfl rfl rfl rfl rfl hl.1 (Nat.le_of_ble_eq_true rfl) ⟨Nat.le_of_ble_eq_true rfl, Nat.le_of_ble_eq_true rfl⟩ dX5_use_33 (fun u H locs hw33 hH => ?_)
        obtain ⟨u12, rfl⟩ : ∃ z, z = u := ⟨_, rfl⟩
        obtain rfl : u12 = rPut N ui (nI (fsP (hW st f1 wi) k 0)) y := hw33
        have hH := (hH : fx_H zA zs.heap H locs D [(h, .inr (5, [.ref r0, .ref r1, .ref r2, .ref r3, .ref r4, .ref r5, .ref r6, .ref r7, .int (nI N), .int (nI k), .int us, .int ca])), (r0, .inr (6, [.ref a0])), (a0, .inl (cI, N, .inl (upd st (fsP (hW st f1 wi) k 0) 1))), (r1, .inr (6, [.ref a1])), (a1, .inl (cI, N, .inl f1)), (r3, .inr (6, [.ref a3])), (a3, .inl (cI, N, .inl (rPut N ui (nI (fsP (hW st f1 wi) k 0)) y))), (r6, .inr (6, [.ref a6])), (a6, .inl (cI, 11, .inl f6)), (r7, .inr (6, [.ref a7])), (a7, .inl (cI, 11, .inl (upd sr wi (nI (fsP (hW st f1 wi) k 0)))))])
        rw [show (rPut N ui (nI (fsP (hW st f1 wi) k 0)) y : Nat → Int32) = upd ui (fsP (hW st f1 wi) k 0) y from rPut_nI (by omega) (by omega)] at hH
        refine lv_iinc (v := nI (i + 1)) (lv' := [(4, .int (nI (i + 1))), (5, .int (nI (fsP (hW st f1 wi) k 0))), (0, .ref h), (1, .int who), (2, .int (nI n)), (3, .int y)]) zx zy dX5_use_36 hl (k := 5) rfl (nI_1 _) (by decide) rfl (fun ls hl => ?_)
        refine lv_goto (tgt := 3) zx zy dX5_use_39 (by decide) ?_
        exact ih3 (i + 1) (upd st (fsP (hW st f1 wi) k 0) 1) (upd ui (fsP (hW st f1 wi) k 0) y) (upd sr wi (nI (fsP (hW st f1 wi) k 0))) (by first | assumption | omega) ((usI_s hlt).symm.trans hG) (sOk_gone (sOk_least (wi := wi) hsr) (by decide)) (hc2) _ _ _ (by omega) hH (lv_sub hl [2, 3, 4, 5, 0] rfl)
  exact L3 _ 0 f0 f3 f7 (by first | assumption | omega) (rfl) (hok.s) (fun wi _ => by simp) _ _ _ (Nat.lt_succ_self _) hH (lv_sub hl [1, 2, 3, 4, 0] rfl)
set_option maxHeartbeats 4000000 in
set_option maxRecDepth 100000 in
theorem k_X5_strikeOne (l : Launch) (D : va_G) (cI cZ : ClassId) (h : Nat) (r0 : Nat) (r1 : Nat) (r2 : Nat) (r3 : Nat) (r4 : Nat) (r5 : Nat) (r6 : Nat) (r7 : Nat) (N : Nat) (k : Nat) (us : Int32) (ca : Int32) (a0 : Nat) (a1 : Nat) (a6 : Nat) (f0 : Nat → Int32) (f1 : Nat → Int32) (f6 : Nat → Int32) (i : Nat) (wi : Nat) (hwi : f1 i + 1 = nI wi) (hw11 : wi < 11) (hi : i < N) (hN : N ≤ 4000) : fx_CV l D cI cZ yX5_strikeOne wsX5_strikeOne ({ frames := 2, cells := 0, slots := 0, locals := 44 }) [.ref h, .int (nI i)] [(h, .inr (5, [.ref r0, .ref r1, .ref r2, .ref r3, .ref r4, .ref r5, .ref r6, .ref r7, .int (nI N), .int (nI k), .int us, .int ca])), (r0, .inr (6, [.ref a0])), (a0, .inl (cI, N, .inl f0)), (r1, .inr (6, [.ref a1])), (a1, .inl (cI, N, .inl f1)), (r6, .inr (6, [.ref a6])), (a6, .inl (cI, 11, .inl f6))] (fun (u : (Nat → Int32) × (Nat → Int32) × (Int32)) => [(h, .inr (5, [.ref r0, .ref r1, .ref r2, .ref r3, .ref r4, .ref r5, .ref r6, .ref r7, .int (nI N), .int (nI k), .int us, .int u.2.2])), (r0, .inr (6, [.ref a0])), (a0, .inl (cI, N, .inl u.1)), (r1, .inr (6, [.ref a1])), (a1, .inl (cI, N, .inl f1)), (r6, .inr (6, [.ref a6])), (a6, .inl (cI, 11, .inl u.2.1))]) (fun (u : (Nat → Int32) × (Nat → Int32) × (Int32)) => u.1 = upd f0 i 2 ∧ u.2.1 = upd f6 wi (f6 wi + -1) ∧ u.2.2 = ca + 1) := by
  refine fx_CV.of (ws' := (wsX5_strikeOne).tail) cX5_strikeOne 2 (by decide) rfl (Nat.le_of_ble_eq_true rfl) ?_
  intro zp ze zs zm za zb zt zc zA ls zQ hQ hC hr hlk hnm hA hH hl
  have zx := hC.1.1
  have zy := hC.1.2.1
  have hl : lv_has ls 2 [(0, .ref h), (1, .int (nI i))] := hl
  refine lv_aload_n zx zy dX5_strikeOne_0 rfl (lv_at hl 0 rfl) ?_
  refine fx_get (C := RX5) (T := TX5) (N := 12) hC (fun _ h => List.mem_cons_of_mem _ (List.mem_append_left _ (List.mem_append_right _ h))) hH 0 rfl rfl 0 (by decide) (by decide +kernel) rfl dX5_strikeOne_1 ?_
  refine lv_iload_n zx zy dX5_strikeOne_4 rfl (lv_at hl 1 rfl) ?_
  refine lv_iconst (v := 2) zx zy dX5_strikeOne_5 (by decide) ?_
  refine fx_cVv (n := 2) (As := [.int (nI i), .int 2]) (b := r0) (rest := []) (fun (u : (Nat → Int32)) => [(h, .inr (5, [.ref r0, .ref r1, .ref r2, .ref r3, .ref r4, .ref r5, .ref r6, .ref r7, .int (nI N), .int (nI k), .int us, .int ca])), (r0, .inr (6, [.ref a0])), (a0, .inl (cI, N, .inl u)), (r1, .inr (6, [.ref a1])), (a1, .inl (cI, N, .inl f1)), (r6, .inr (6, [.ref a6])), (a6, .inl (cI, 11, .inl f6))]) hC hA hH (k_X6_put l D cI cZ r0 a0 N f0 (nI i) 2 (by first | assumption | omega)) [1, 2] [0, 3, 4, 5, 6] [0, 5, 6, 1, 2, 3, 4] [(h, .inr (5, [.ref r0, .ref r1, .ref r2, .ref r3, .ref r4, .ref r5, .ref r6, .ref r7, .int (nI N), .int (nI k), .int us, .int ca])), (r1, .inr (6, [.ref a1])), (a1, .inl (cI, N, .inl f1)), (r6, .inr (6, [.ref a6])), (a6, .inl (cI, 11, .inl f6))] rfl rfl (by decide) (by decide) (fun _ => rfl) rfl gX5_strikeOne_X6_put (by decide +kernel) ⟨Nat.le_of_ble_eq_true rfl, Nat.le_of_ble_eq_true rfl⟩ 0 rfl rfl rfl rfl rfl hl.1 (Nat.le_of_ble_eq_true rfl) ⟨Nat.le_of_ble_eq_true rfl, Nat.le_of_ble_eq_true rfl⟩ dX5_strikeOne_6 (fun u H locs hw6 hH => ?_)
  obtain ⟨u2, rfl⟩ : ∃ z, z = u := ⟨_, rfl⟩
  obtain rfl : u2 = rPut N f0 (nI i) 2 := hw6
  have hH := (hH : fx_H zA zs.heap H locs D [(h, .inr (5, [.ref r0, .ref r1, .ref r2, .ref r3, .ref r4, .ref r5, .ref r6, .ref r7, .int (nI N), .int (nI k), .int us, .int ca])), (r0, .inr (6, [.ref a0])), (a0, .inl (cI, N, .inl (rPut N f0 (nI i) 2))), (r1, .inr (6, [.ref a1])), (a1, .inl (cI, N, .inl f1)), (r6, .inr (6, [.ref a6])), (a6, .inl (cI, 11, .inl f6))])
  rw [show (rPut N f0 (nI i) 2 : Nat → Int32) = upd f0 i 2 from rPut_nI hi (by omega)] at hH
  refine lv_aload_n zx zy dX5_strikeOne_9 rfl (lv_at hl 0 rfl) ?_
  refine fx_get (C := RX5) (T := TX5) (N := 12) hC (fun _ h => List.mem_cons_of_mem _ (List.mem_append_left _ (List.mem_append_right _ h))) hH 0 rfl rfl 6 (by decide) (by decide +kernel) rfl dX5_strikeOne_10 ?_
  refine lv_aload_n zx zy dX5_strikeOne_13 rfl (lv_at hl 0 rfl) ?_
  refine fx_get (C := RX5) (T := TX5) (N := 12) hC (fun _ h => List.mem_cons_of_mem _ (List.mem_append_left _ (List.mem_append_right _ h))) hH 0 rfl rfl 1 (by decide) (by decide +kernel) rfl dX5_strikeOne_14 ?_
  refine lv_iload_n zx zy dX5_strikeOne_17 rfl (lv_at hl 1 rfl) ?_
  refine fx_cVi (n := 1) (As := [.int (nI i)]) (b := r1) (rest := [.ref r6]) (fun (u : Unit) => [(h, .inr (5, [.ref r0, .ref r1, .ref r2, .ref r3, .ref r4, .ref r5, .ref r6, .ref r7, .int (nI N), .int (nI k), .int us, .int ca])), (r0, .inr (6, [.ref a0])), (a0, .inl (cI, N, .inl (upd f0 i 2))), (r1, .inr (6, [.ref a1])), (a1, .inl (cI, N, .inl f1)), (r6, .inr (6, [.ref a6])), (a6, .inl (cI, 11, .inl f6))]) hC hA hH (k_X6_at l D cI cZ r1 a1 N f1 (nI i) (by first | assumption | omega)) [3, 4] [0, 1, 2, 5, 6] [0, 1, 2, 5, 6, 3, 4] [(h, .inr (5, [.ref r0, .ref r1, .ref r2, .ref r3, .ref r4, .ref r5, .ref r6, .ref r7, .int (nI N), .int (nI k), .int us, .int ca])), (r0, .inr (6, [.ref a0])), (a0, .inl (cI, N, .inl (upd f0 i 2))), (r6, .inr (6, [.ref a6])), (a6, .inl (cI, 11, .inl f6))] rfl rfl (by decide) (by decide) (fun _ => rfl) rfl gX5_strikeOne_X6_at (by decide +kernel) ⟨Nat.le_of_ble_eq_true rfl, Nat.le_of_ble_eq_true rfl⟩ 0 rfl rfl rfl rfl rfl hl.1 (Nat.le_of_ble_eq_true rfl) ⟨Nat.le_of_ble_eq_true rfl, Nat.le_of_ble_eq_true rfl⟩ dX5_strikeOne_18 (fun r3 u H locs hw18 hH => ?_)
  obtain rfl : r3 = rAt N f1 (nI i) := hw18
  have hH := (hH : fx_H zA zs.heap H locs D [(h, .inr (5, [.ref r0, .ref r1, .ref r2, .ref r3, .ref r4, .ref r5, .ref r6, .ref r7, .int (nI N), .int (nI k), .int us, .int ca])), (r0, .inr (6, [.ref a0])), (a0, .inl (cI, N, .inl (upd f0 i 2))), (r1, .inr (6, [.ref a1])), (a1, .inl (cI, N, .inl f1)), (r6, .inr (6, [.ref a6])), (a6, .inl (cI, 11, .inl f6))])
  refine lv_topi (fun v4 ev4 => ?_)
  obtain rfl : v4 = f1 i := ev4.trans (rAt_nI hi (by omega))
  refine lv_iconst (v := 1) zx zy dX5_strikeOne_21 (by decide) ?_
  refine lv_iadd zx zy dX5_strikeOne_22 ?_
  refine lv_topi (fun v5 ev5 => ?_)
  obtain rfl : v5 = nI wi := ev5.trans (hwi)
  refine lv_iconst (v := (-1)) zx zy dX5_strikeOne_23 (by decide) ?_
  refine fx_cVv (n := 2) (As := [.int (nI wi), .int (-1)]) (b := r6) (rest := []) (fun (u : (Nat → Int32)) => [(h, .inr (5, [.ref r0, .ref r1, .ref r2, .ref r3, .ref r4, .ref r5, .ref r6, .ref r7, .int (nI N), .int (nI k), .int us, .int ca])), (r0, .inr (6, [.ref a0])), (a0, .inl (cI, N, .inl (upd f0 i 2))), (r1, .inr (6, [.ref a1])), (a1, .inl (cI, N, .inl f1)), (r6, .inr (6, [.ref a6])), (a6, .inl (cI, 11, .inl u))]) hC hA hH (k_X6_add l D cI cZ r6 a6 11 f6 (nI wi) (-1) (by first | assumption | omega)) [5, 6] [0, 1, 2, 3, 4] [0, 1, 2, 3, 4, 5, 6] [(h, .inr (5, [.ref r0, .ref r1, .ref r2, .ref r3, .ref r4, .ref r5, .ref r6, .ref r7, .int (nI N), .int (nI k), .int us, .int ca])), (r0, .inr (6, [.ref a0])), (a0, .inl (cI, N, .inl (upd f0 i 2))), (r1, .inr (6, [.ref a1])), (a1, .inl (cI, N, .inl f1))] rfl rfl (by decide) (by decide) (fun _ => rfl) rfl gX5_strikeOne_X6_add (by decide +kernel) ⟨Nat.le_of_ble_eq_true rfl, Nat.le_of_ble_eq_true rfl⟩ 0 rfl rfl rfl rfl rfl hl.1 (Nat.le_of_ble_eq_true rfl) ⟨Nat.le_of_ble_eq_true rfl, Nat.le_of_ble_eq_true rfl⟩ dX5_strikeOne_24 (fun u H locs hw24 hH => ?_)
  obtain ⟨u7, rfl⟩ : ∃ z, z = u := ⟨_, rfl⟩
  obtain rfl : u7 = rPut 11 f6 (nI wi) (rAt 11 f6 (nI wi) + (-1)) := hw24
  have hH := (hH : fx_H zA zs.heap H locs D [(h, .inr (5, [.ref r0, .ref r1, .ref r2, .ref r3, .ref r4, .ref r5, .ref r6, .ref r7, .int (nI N), .int (nI k), .int us, .int ca])), (r0, .inr (6, [.ref a0])), (a0, .inl (cI, N, .inl (upd f0 i 2))), (r1, .inr (6, [.ref a1])), (a1, .inl (cI, N, .inl f1)), (r6, .inr (6, [.ref a6])), (a6, .inl (cI, 11, .inl (rPut 11 f6 (nI wi) (rAt 11 f6 (nI wi) + (-1)))))])
  rw [show (rPut 11 f6 (nI wi) (rAt 11 f6 (nI wi) + (-1)) : Nat → Int32) = upd f6 wi (f6 wi + -1) from rAdd_nI hw11 (by omega)] at hH
  refine lv_aload_n zx zy dX5_strikeOne_27 rfl (lv_at hl 0 rfl) ?_
  refine lv_dup zx zy dX5_strikeOne_28 rfl ?_
  refine fx_get (C := RX5) (T := TX5) (N := 12) hC (fun _ h => List.mem_cons_of_mem _ (List.mem_append_left _ (List.mem_append_right _ h))) hH 0 rfl rfl 11 (by decide) (by decide +kernel) rfl dX5_strikeOne_29 ?_
  refine lv_iconst (v := 1) zx zy dX5_strikeOne_32 (by decide) ?_
  refine lv_iadd zx zy dX5_strikeOne_33 ?_
  refine fx_put (C := RX5) (T := TX5) (N := 12) (ty := .int) (ws2 := [(h, .inr (5, [.ref r0, .ref r1, .ref r2, .ref r3, .ref r4, .ref r5, .ref r6, .ref r7, .int (nI N), .int (nI k), .int us, .int (ca + 1)])), (r0, .inr (6, [.ref a0])), (a0, .inl (cI, N, .inl (upd f0 i 2))), (r1, .inr (6, [.ref a1])), (a1, .inl (cI, N, .inl f1)), (r6, .inr (6, [.ref a6])), (a6, .inl (cI, 11, .inl (upd f6 wi (f6 wi + -1))))]) hC (fun _ h => List.mem_cons_of_mem _ (List.mem_append_left _ (List.mem_append_right _ h))) tyX5_ok nmX5 hH 0 rfl rfl 11 (by decide) (by decide +kernel) rfl rfl rfl rfl (Nat.le_of_ble_eq_true rfl) rfl dX5_strikeOne_34 (fun H locs hH => ?_)
  exact fx_vret hQ hC hr hlk hH dX5_strikeOne_37 (Nat.le_of_ble_eq_true rfl) (Nat.le_of_ble_eq_true rfl) ((upd f0 i 2, upd f6 wi (f6 wi + -1), ca + 1)) rfl (⟨rfl, rfl, rfl⟩)
set_option maxHeartbeats 4000000 in
set_option maxRecDepth 100000 in
theorem k_X5_strike (l : Launch) (D : va_G) (cI cZ : ClassId) (h : Nat) (r0 : Nat) (r1 : Nat) (r2 : Nat) (r3 : Nat) (r4 : Nat) (r5 : Nat) (r6 : Nat) (r7 : Nat) (N : Nat) (k : Nat) (us : Int32) (ca : Int32) (a0 : Nat) (a1 : Nat) (a6 : Nat) (a7 : Nat) (f0 : Nat → Int32) (f1 : Nat → Int32) (f6 : Nat → Int32) (f7 : Nat → Int32) (who : Int32) (wi : Nat) (hwi : who + 1 = nI wi) (hw11 : wi < 11) (n : Nat) (hkN : k ≤ N) (hN : N ≤ 4000) (hok : pOk f0 f1 f6 f7 k) (hcnt : n ≤ cntP (hW f0 f1 wi) k) : fx_CV l D cI cZ yX5_strike wsX5_strike ({ frames := 3, cells := 0, slots := 0, locals := 65 }) [.ref h, .int who, .int (nI n)] [(h, .inr (5, [.ref r0, .ref r1, .ref r2, .ref r3, .ref r4, .ref r5, .ref r6, .ref r7, .int (nI N), .int (nI k), .int us, .int ca])), (r0, .inr (6, [.ref a0])), (a0, .inl (cI, N, .inl f0)), (r1, .inr (6, [.ref a1])), (a1, .inl (cI, N, .inl f1)), (r6, .inr (6, [.ref a6])), (a6, .inl (cI, 11, .inl f6)), (r7, .inr (6, [.ref a7])), (a7, .inl (cI, 11, .inl f7))] (fun (u : (Nat → Int32) × (Nat → Int32) × (Nat → Int32) × (Int32)) => [(h, .inr (5, [.ref r0, .ref r1, .ref r2, .ref r3, .ref r4, .ref r5, .ref r6, .ref r7, .int (nI N), .int (nI k), .int us, .int u.2.2.2])), (r0, .inr (6, [.ref a0])), (a0, .inl (cI, N, .inl u.1)), (r1, .inr (6, [.ref a1])), (a1, .inl (cI, N, .inl f1)), (r6, .inr (6, [.ref a6])), (a6, .inl (cI, 11, .inl u.2.1)), (r7, .inr (6, [.ref a7])), (a7, .inl (cI, 11, .inl u.2.2.1))]) (fun (u : (Nat → Int32) × (Nat → Int32) × (Nat → Int32) × (Int32)) => ((pOk u.1 f1 u.2.1 u.2.2.1 k) ∧ u.1 = skI f1 k wi n f0 ∧ u.2.2.2 = ca + nI n)) := by
  refine fx_CV.of (ws' := (wsX5_strike).tail) cX5_strike 4 (by decide) rfl (Nat.le_of_ble_eq_true rfl) ?_
  intro zp ze zs zm za zb zt zc zA ls zQ hQ hC hr hlk hnm hA hH hl
  have zx := hC.1.1
  have zy := hC.1.2.1
  have hl : lv_has ls 4 [(0, .ref h), (1, .int who), (2, .int (nI n))] := hl
  refine lv_iconst (v := 0) zx zy dX5_strike_0 (by decide) ?_
  refine lv_topi (fun v1 ev1 => ?_)
  obtain rfl : v1 = nI 0 := ev1.trans (rfl)
  refine lv_istore_n (lv' := [(3, .int (nI 0)), (0, .ref h), (1, .int who), (2, .int (nI n))]) zx zy dX5_strike_1 rfl hl (by decide) rfl (fun ls hl => ?_)
  have L2 : ∀ (fu : Nat) (i : Nat) (st : Nat → Int32) (hd : Nat → Int32) (sr : Nat → Int32) (cc : Int32) (hi : i ≤ n) (hG : skI f1 k wi (n - i) st = skI f1 k wi n f0) (hpo : pOk st f1 hd sr k) (hc : ∀ w, w < 11 → cntP (hW st f1 w) k + (if w = wi then i else 0) = cntP (hW f0 f1 w) k) (hcc : cc = ca + nI i) (H : Heap) (locs : List Loc) (ls : Array Slot), n - i < fu → fx_H zA zs.heap H locs D [(h, .inr (5, [.ref r0, .ref r1, .ref r2, .ref r3, .ref r4, .ref r5, .ref r6, .ref r7, .int (nI N), .int (nI k), .int us, .int cc])), (r0, .inr (6, [.ref a0])), (a0, .inl (cI, N, .inl st)), (r1, .inr (6, [.ref a1])), (a1, .inl (cI, N, .inl f1)), (r6, .inr (6, [.ref a6])), (a6, .inl (cI, 11, .inl hd)), (r7, .inr (6, [.ref a7])), (a7, .inl (cI, 11, .inl sr))] → lv_has ls 4 [(0, .ref h), (1, .int who), (2, .int (nI n)), (3, .int (nI i))] → W zp l ze ({ frames := 3, cells := 0, slots := 0, locals := 65 }) zs zm za zb zt zc H locs (0) (0) zQ (F0 zm 2 ls []) := by
    intro fu
    induction fu with
    | zero => intro i st hd sr cc hi hG hpo hc hcc H locs ls hfu; exact absurd hfu (Nat.not_lt_zero _)
    | succ fu ih2 =>
      intro i st hd sr cc hi hG hpo hc hcc H locs ls hfu2 hH hl
      refine lv_iload_n zx zy dX5_strike_2 rfl (lv_at hl 3 rfl) ?_
      refine lv_iload_n zx zy dX5_strike_3 rfl (lv_at hl 2 rfl) ?_
      refine lv_icmp_ge (tgt := 22) zx zy dX5_strike_4 (by decide) (fun c4 => ?_) (fun c4 => ?_)
      · skip
        have hin : i = n := Nat.le_antisymm hi (fx_le_of c4 (by have := cntP_le (hW f0 f1 wi) k; omega) (by have := cntP_le (hW f0 f1 wi) k; omega))
        exact fx_vret hQ hC hr hlk hH dX5_strike_22 (Nat.le_of_ble_eq_true rfl) (Nat.le_of_ble_eq_true rfl) ((st, hd, sr, cc)) rfl (⟨hpo, by rw [← hG, hin, Nat.sub_self]; rfl, by rw [hcc, hin]⟩)
      · skip
        have hlt : i < n := fx_lt_of c4 (by have := cntP_le (hW f0 f1 wi) k; omega)
        have hc1 := hc wi hw11
        have hpos : 0 < cntP (hW st f1 wi) k := by rw [if_pos rfl] at hc1; omega
        have hpk := fsP_lt hpos
        have hpt := fsP_at hpos
        have hc2 : ∀ w, w < 11 → cntP (hW (upd st (fsP (hW st f1 wi) k 0) 2) f1 w) k + (if w = wi then i + 1 else 0) = cntP (hW f0 f1 w) k := by
          intro w hw
          have a1 := cnt_gone (x := 2) hpk hpt (by decide) hw11 w hw
          have a2 := hc w hw
          by_cases e1 : w = wi <;> simp only [e1, if_true, if_false] at a1 a2 ⊢ <;> omega
        refine lv_aload_n zx zy dX5_strike_7 rfl (lv_at hl 0 rfl) ?_
        refine lv_aload_n zx zy dX5_strike_8 rfl (lv_at hl 0 rfl) ?_
        refine lv_iload_n zx zy dX5_strike_9 rfl (lv_at hl 1 rfl) ?_
        refine fx_cVi (n := 1) (As := [.int who]) (b := h) (rest := [.ref h]) (fun (u : (Nat → Int32)) => [(h, .inr (5, [.ref r0, .ref r1, .ref r2, .ref r3, .ref r4, .ref r5, .ref r6, .ref r7, .int (nI N), .int (nI k), .int us, .int cc])), (r0, .inr (6, [.ref a0])), (a0, .inl (cI, N, .inl st)), (r1, .inr (6, [.ref a1])), (a1, .inl (cI, N, .inl f1)), (r6, .inr (6, [.ref a6])), (a6, .inl (cI, 11, .inl hd)), (r7, .inr (6, [.ref a7])), (a7, .inl (cI, 11, .inl u))]) hC hA hH (k_X5_leastOf l D cI cZ h r0 r1 r2 r3 r4 r5 r6 r7 N k us cc a0 a1 a7 st f1 sr who wi (by first | assumption | omega) (by first | assumption | omega) (by first | assumption | omega) (by first | assumption | omega) hpo.s) [0, 1, 2, 3, 4, 7, 8] [5, 6] [2, 3, 4, 5, 6, 0, 1, 7, 8] [(r6, .inr (6, [.ref a6])), (a6, .inl (cI, 11, .inl hd))] rfl rfl (by decide) (by decide) (fun _ => rfl) rfl gX5_strike_X5_leastOf (by decide +kernel) ⟨Nat.le_of_ble_eq_true rfl, Nat.le_of_ble_eq_true rfl⟩ 0 rfl rfl rfl rfl rfl hl.1 (Nat.le_of_ble_eq_true rfl) ⟨Nat.le_of_ble_eq_true rfl, Nat.le_of_ble_eq_true rfl⟩ dX5_strike_10 (fun r2 u H locs hw10 hH => ?_)
        obtain ⟨u3, rfl⟩ : ∃ z, z = u := ⟨_, rfl⟩
        obtain ⟨e4, e5⟩ := hw10
        obtain rfl : r2 = nI (fsP (hW st f1 wi) k 0) := e4
        obtain rfl : u3 = upd sr wi (nI (fsP (hW st f1 wi) k 0)) := e5
        have hH := (hH : fx_H zA zs.heap H locs D [(h, .inr (5, [.ref r0, .ref r1, .ref r2, .ref r3, .ref r4, .ref r5, .ref r6, .ref r7, .int (nI N), .int (nI k), .int us, .int cc])), (r0, .inr (6, [.ref a0])), (a0, .inl (cI, N, .inl st)), (r1, .inr (6, [.ref a1])), (a1, .inl (cI, N, .inl f1)), (r6, .inr (6, [.ref a6])), (a6, .inl (cI, 11, .inl hd)), (r7, .inr (6, [.ref a7])), (a7, .inl (cI, 11, .inl (upd sr wi (nI (fsP (hW st f1 wi) k 0)))))])
        refine fx_cVv (n := 1) (As := [.int (nI (fsP (hW st f1 wi) k 0))]) (b := h) (rest := []) (fun (u : (Nat → Int32) × (Nat → Int32) × (Int32)) => [(h, .inr (5, [.ref r0, .ref r1, .ref r2, .ref r3, .ref r4, .ref r5, .ref r6, .ref r7, .int (nI N), .int (nI k), .int us, .int u.2.2])), (r0, .inr (6, [.ref a0])), (a0, .inl (cI, N, .inl u.1)), (r1, .inr (6, [.ref a1])), (a1, .inl (cI, N, .inl f1)), (r6, .inr (6, [.ref a6])), (a6, .inl (cI, 11, .inl u.2.1)), (r7, .inr (6, [.ref a7])), (a7, .inl (cI, 11, .inl (upd sr wi (nI (fsP (hW st f1 wi) k 0)))))]) hC hA hH (k_X5_strikeOne l D cI cZ h r0 r1 r2 r3 r4 r5 r6 r7 N k us cc a0 a1 a6 st f1 hd (fsP (hW st f1 wi) k 0) wi ((of_decide_eq_true hpt).2) (by first | assumption | omega) (by first | assumption | omega) (by first | assumption | omega)) [0, 1, 2, 3, 4, 5, 6] [7, 8] [2, 3, 4, 5, 6, 7, 8, 0, 1] [(r7, .inr (6, [.ref a7])), (a7, .inl (cI, 11, .inl (upd sr wi (nI (fsP (hW st f1 wi) k 0)))))] rfl rfl (by decide) (by decide) (fun _ => rfl) rfl gX5_strike_X5_strikeOne (by decide +kernel) ⟨Nat.le_of_ble_eq_true rfl, Nat.le_of_ble_eq_true rfl⟩ 0 rfl rfl rfl rfl rfl hl.1 (Nat.le_of_ble_eq_true rfl) ⟨Nat.le_of_ble_eq_true rfl, Nat.le_of_ble_eq_true rfl⟩ dX5_strike_13 (fun u H locs hw13 hH => ?_)
        obtain ⟨u7, u8, u9⟩ := u
        obtain ⟨e10, e11, e12⟩ := hw13
        obtain rfl : u7 = upd st (fsP (hW st f1 wi) k 0) 2 := e10
        obtain rfl : u8 = upd hd wi (hd wi + -1) := e11
        obtain rfl : u9 = cc + 1 := e12
        have hH := (hH : fx_H zA zs.heap H locs D [(h, .inr (5, [.ref r0, .ref r1, .ref r2, .ref r3, .ref r4, .ref r5, .ref r6, .ref r7, .int (nI N), .int (nI k), .int us, .int (cc + 1)])), (r0, .inr (6, [.ref a0])), (a0, .inl (cI, N, .inl (upd st (fsP (hW st f1 wi) k 0) 2))), (r1, .inr (6, [.ref a1])), (a1, .inl (cI, N, .inl f1)), (r6, .inr (6, [.ref a6])), (a6, .inl (cI, 11, .inl (upd hd wi (hd wi + -1)))), (r7, .inr (6, [.ref a7])), (a7, .inl (cI, 11, .inl (upd sr wi (nI (fsP (hW st f1 wi) k 0)))))])
        refine lv_iinc (v := nI (i + 1)) (lv' := [(3, .int (nI (i + 1))), (0, .ref h), (1, .int who), (2, .int (nI n))]) zx zy dX5_strike_16 hl (k := 3) rfl (nI_1 _) (by decide) rfl (fun ls hl => ?_)
        refine lv_goto (tgt := 2) zx zy dX5_strike_19 (by decide) ?_
        exact ih2 (i + 1) (upd st (fsP (hW st f1 wi) k 0) 2) (upd hd wi (hd wi + -1)) (upd sr wi (nI (fsP (hW st f1 wi) k 0))) (cc + 1) (by first | assumption | omega) ((skI_s hlt).symm.trans hG) (pOk_gone (n := 1) hpo (sOk_gone (sOk_least (wi := wi) hpo.s) (by decide)) (fun w hw => cnt_gone hpk hpt (by decide) hw11 w hw)) (hc2) (by rw [hcc, Int32.add_assoc, nI_1]) _ _ _ (by omega) hH (lv_sub hl [1, 2, 3, 0] rfl)
  exact L2 _ 0 f0 f6 f7 ca (by first | assumption | omega) (rfl) (hok) (fun wi _ => by simp) (Int32.add_zero ca).symm _ _ _ (Nat.lt_succ_self _) hH (lv_sub hl [1, 2, 3, 0] rfl)
