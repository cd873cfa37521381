/-! ===== the words of every contract here: a world before, a world behind, an answer ===== -/
abbrev fx_T (cI cZ : ClassId) : List (ClassId × FieldType) := [(cI, .int), (cZ, .boolean)]
def fx_pre (D : va_G) (cI cZ : ClassId) (w : va_W) (sz : Nat) (U : State) : Prop := U.heap.size = sz ∧ va_P D vwCl w U.heap ∧ va_K D vwCl (fx_T cI cZ) U ∧ va_D (fun _ => True) w
def fx_end (D : va_G) (cI cZ : ClassId) (A : Nat → Prop) (w : va_W) (t : State) : Prop := va_P D vwCl w t.heap ∧ va_K D vwCl (fx_T cI cZ) t ∧ va_D A w
/-- an int (or boolean) comes back -/
def fx_CI (l : Launch) (D : va_G) (cI cZ : ClassId) (y : MethodName) (wsl : List Cond) (rm : Room) (av : List Value) (w : va_W) {S : Type} (w' : S → va_W) (post : Int32 → S → Prop) : Prop :=
  ∀ sz : Nat, Met l y wsl rm (va_Pc av (fx_pre D cI cZ w sz)) (va_Qi post (fun u t => fx_end D cI cZ (va_A w sz) (w' u) t) (va_A w sz)) rm.cells rm.slots (va_A w sz)
/-- nothing comes back -/
def fx_CV (l : Launch) (D : va_G) (cI cZ : ClassId) (y : MethodName) (wsl : List Cond) (rm : Room) (av : List Value) (w : va_W) {S : Type} (w' : S → va_W) (post : S → Prop) : Prop :=
  ∀ sz : Nat, Met l y wsl rm (va_Pc av (fx_pre D cI cZ w sz)) (va_Qv post (fun u t => fx_end D cI cZ (va_A w sz) (w' u) t) (va_A w sz)) rm.cells rm.slots (va_A w sz)
/-- a reference comes back: its address is the first of what the world behind is told by -/
def fx_CR (l : Launch) (D : va_G) (cI cZ : ClassId) (y : MethodName) (wsl : List Cond) (rm : Room) (av : List Value) (w : va_W) {S : Type} (w' : S → Nat → va_W) (post : S → Prop) : Prop :=
  ∀ sz : Nat, Met l y wsl rm (va_Pc av (fx_pre D cI cZ w sz)) (va_Qr post (fun u a t => fx_end D cI cZ (va_A w sz) (w' u a) t) (va_A w sz)) rm.cells rm.slots (va_A w sz)
def fx_Cx (p : Program) (s : State) (m : MethodId) (args : Array Value) (c : Code) (cc : ByteArray) (nL : Nat) (Ts : List Cond) (own : String) (D : va_G) (cI cZ : ClassId) : Prop :=
  CallFix p m c cc nL s args Ts own ∧ va_K D vwCl (fx_T cI cZ) s
def fx_H (A : Nat → Prop) (H0 H : Heap) (locs : List Loc) (D : va_G) (w : va_W) : Prop := va_P D vwCl w H ∧ va_D A w ∧ va_S A H0 H locs
theorem fx_blind {D : va_G} {cI cZ : ClassId} {av : List Value} {w : va_W} {sz : Nat} : FrameBlind (va_Pc av (fx_pre D cI cZ w sz)) := by
  intro a U g mk q
  obtain ⟨q0, q1, qP, qK, qD⟩ := q
  exact ⟨q0, q1, qP, va_K.moved (u := U) (U := U.calling g mk a) (Vm.Alike.refl U.vm) qK, qD⟩
theorem fx_places {ws wc : va_W} {is : List Nat} (h : is.map (fun i => ws[i]?) = wc.map some) {k : Nat} {q : Nat × va_E} (hk : wc[k]? = some q) : ∃ i, is[k]? = some i ∧ ws[i]? = some q := by
  have h1 : (is.map (fun i => ws[i]?))[k]? = some (some q) := by rw [h, List.getElem?_map, hk]; rfl
  rw [List.getElem?_map] at h1
  cases hi : is[k]? with
  | none => rw [hi] at h1; simp at h1
  | some i => rw [hi] at h1; exact ⟨i, rfl, by simpa using h1⟩
theorem fx_subP {D : va_G} {cl : List vw_C} {ws wc : va_W} {H : Heap} (hP : va_P D cl ws H) {is : List Nat} (h : is.map (fun i => ws[i]?) = wc.map some) : va_P D cl wc H := by
  intro k q hk
  obtain ⟨i, -, hi⟩ := fx_places h hk
  exact hP i q hi
/-- the same cells in another order, or fewer -/
theorem fx_H.re {A : Nat → Prop} {H0 H : Heap} {locs : List Loc} {D : va_G} {ws ws2 : va_W} (h : fx_H A H0 H locs D ws) (is : List Nat) (hn : va_nd is = true) (hs : is.map (fun i => ws[i]?) = ws2.map some) : fx_H A H0 H locs D ws2 := ⟨fx_subP h.1 hs, h.2.1.sub is hn hs, h.2.2⟩
section FX
variable {p : Program} {l : Launch} {e : Env} {R : Room} {s : State} {m : MethodId} {args : Array Value} {below : List Frame} {meth : Method} {c : Code} {H : Heap} {locs : List Loc} {cells slots : Nat} {Q : State → Prop}
variable {cc : ByteArray} {pc nL : Nat} {ls : Array Slot} {rest st0 : List Value} {D : va_G} {cI cZ : ClassId} {A : Nat → Prop} {a : Nat} {ws wc wr : va_W} {H0 : Heap} {Ts : List Cond} {own : String}
theorem fx_CI.of {y : MethodName} {wsl ws' : List Cond} {rm : Room} {av : List Value} {w : va_W} {S : Type} {w' : S → va_W} {post : Int32 → S → Prop} {ret : Option FieldType} (cc : ByteArray) (nL : Nat) (hy : plainName y.cls = true) (hw : wsl = Cond.code y cc nL ret :: ws') (hlen : (lg_sl av).length ≤ nL)
    (body : ∀ (p : Program) (e : Env) (s : State) (m : MethodId) (args : Array Value) (below : List Frame) (meth : Method) (c : Code) (A : Nat → Prop) (ls : Array Slot) (Q : State → Prop), Q = MQ below (va_Qi post (fun u t => fx_end D cI cZ A (w' u) t) A) args s rm.cells rm.slots A → fx_Cx p s m args c cc nL wsl y.cls D cI cZ → meth.sig.returnType = ret → meth.locks = false → (∀ q : Nat, s.heap.size ≤ q → A q) → fx_H A s.heap s.heap [] D w → lv_has ls nL (lv_args 0 av) →
      W p l e rm s m args below meth c s.heap [] 0 0 Q (F0 m 0 ls [])) : fx_CI l D cI cZ y wsl rm av w w' post := by
  intro sz
  refine Met.ofW (cc := cc) (maxL := nL) (ret := ret) hy hw ?_
  intro p e s m args below meth c s₁ B hml hv
  obtain ⟨rfl, hsz, hP, hK, hD0⟩ := hv
  subst hsz
  have hD := hD0.self (sz := s.heap.size)
  have hl := lv_entry av (n := nL) hlen
  rw [lg_entry_eq]
  exact body p e s m _ below meth c (va_A w s.heap.size) _ _ rfl ⟨⟨B.exec, B.bytes, hml, findClass_of_methodNamed B.named, atoms_spec (ws := wsl) B.pre⟩, hK⟩ B.returns B.notSynchronized (fun q h => Or.inr h) ⟨hP, hD, va_S.rf⟩ hl
theorem fx_CV.of {y : MethodName} {wsl ws' : List Cond} {rm : Room} {av : List Value} {w : va_W} {S : Type} {w' : S → va_W} {post : S → Prop} (cc : ByteArray) (nL : Nat) (hy : plainName y.cls = true) (hw : wsl = Cond.code y cc nL none :: ws') (hlen : (lg_sl av).length ≤ nL)
    (body : ∀ (p : Program) (e : Env) (s : State) (m : MethodId) (args : Array Value) (below : List Frame) (meth : Method) (c : Code) (A : Nat → Prop) (ls : Array Slot) (Q : State → Prop), Q = MQ below (va_Qv post (fun u t => fx_end D cI cZ A (w' u) t) A) args s rm.cells rm.slots A → fx_Cx p s m args c cc nL wsl y.cls D cI cZ → meth.sig.returnType = none → meth.locks = false → meth.name = y.name → (∀ q : Nat, s.heap.size ≤ q → A q) → fx_H A s.heap s.heap [] D w → lv_has ls nL (lv_args 0 av) →
      W p l e rm s m args below meth c s.heap [] 0 0 Q (F0 m 0 ls [])) : fx_CV l D cI cZ y wsl rm av w w' post := by
  intro sz
  refine Met.ofW (cc := cc) (maxL := nL) (ret := none) hy hw ?_
  intro p e s m args below meth c s₁ B hml hv
  obtain ⟨rfl, hsz, hP, hK, hD0⟩ := hv
  subst hsz
  have hD := hD0.self (sz := s.heap.size)
  have hl := lv_entry av (n := nL) hlen
  rw [lg_entry_eq]
  exact body p e s m _ below meth c (va_A w s.heap.size) _ _ rfl ⟨⟨B.exec, B.bytes, hml, findClass_of_methodNamed B.named, atoms_spec (ws := wsl) B.pre⟩, hK⟩ B.returns B.notSynchronized (name_of_methodNamed B.named B.method).1 (fun q h => Or.inr h) ⟨hP, hD, va_S.rf⟩ hl
theorem fx_iret {S : Type} {w' : S → va_W} {post : Int32 → S → Prop} {v : Int32} {ty : FieldType} {mc ms : Nat} (hQ : Q = MQ below (va_Qi post (fun u t => fx_end D cI cZ A (w' u) t) A) args s mc ms A) (hC : fx_Cx p s m args c cc nL Ts own D cI cZ) (hr : meth.sig.returnType = some ty) (hlocks : meth.locks = false) (hH : fx_H A s.heap H locs D ws) (hdg : decode cc pc = .ok (.ireturn, 1)) (hn : narrow ty (.int v) = .int v) (hc : cells ≤ mc) (hs : slots ≤ ms) (u : S) (hw : ws = w' u) (hp : post v u) :
    W p l e R s m args below meth c H locs cells slots Q (F0 m pc ls [.int v]) := by
  subst hQ
  obtain ⟨⟨hx, hb, -, -, -⟩, hK⟩ := hC
  obtain ⟨hP, hD, hS⟩ := hH
  subst hw
  refine W.widen hc hs ?_
  exact W.zret (v := v) hx hb hr hn (fun t ht hW => ⟨⟨v, u, rfl, hp, by rw [ht]; exact hP, va_K.moved hW.alike hK, hD⟩, hS.F ht⟩) hS.2.2 hdg hlocks
theorem fx_vret {S : Type} {w' : S → va_W} {post : S → Prop} {mc ms : Nat} (hQ : Q = MQ below (va_Qv post (fun u t => fx_end D cI cZ A (w' u) t) A) args s mc ms A) (hC : fx_Cx p s m args c cc nL Ts own D cI cZ) (hr : meth.sig.returnType = none) (hlocks : meth.locks = false) (hH : fx_H A s.heap H locs D ws) (hdg : decode cc pc = .ok (.return_, 1)) (hc : cells ≤ mc) (hs : slots ≤ ms) (u : S) (hw : ws = w' u) (hp : post u) :
    W p l e R s m args below meth c H locs cells slots Q (F0 m pc ls []) := by
  subst hQ
  obtain ⟨⟨hx, hb, -, -, -⟩, hK⟩ := hC
  obtain ⟨hP, hD, hS⟩ := hH
  subst hw
  refine W.widen hc hs ?_
  exact W.vret hx hb hr (fun t ht hW => ⟨⟨u, rfl, hp, by rw [ht]; exact hP, va_K.moved hW.alike hK, hD⟩, hS.F ht⟩) hS.2.2 hdg hlocks
theorem fx_get {C : String} {T : u_T} {N ci index : Nat} {fs : List Value} {v : Value} (hC : fx_Cx p s m args c cc nL Ts own D cI cZ) (hin : ∀ w ∈ u_ws C T N, w ∈ Ts) (hH : fx_H A H0 H locs D ws) (q0 : Nat) (he : ws[q0]? = some (a, .inr (ci, fs))) (hc : vwCl[ci]? = some (C, T, N)) (k : Nat) (hk : k < N) (hlink : Cond.fieldLink own index (T k).1 (T k).2.1 (T k).2.2.1 ∈ Ts) (hv : fs[k]? = some v) (hdg : decode cc pc = .ok (.getfield index, 3))
    (kk : W p l e R s m args below meth c H locs cells slots Q (F0 m (pc + 3) ls (v :: rest))) : W p l e R s m args below meth c H locs cells slots Q (F0 m pc ls (.ref a :: rest)) := by
  obtain ⟨⟨hx, hb, -, hown, hts⟩, hK⟩ := hC
  exact va_get hx hb hts hin hown hK hH.1 q0 he hc k hk (hts _ hlink) (fun _ h9 => h9) hv hdg kk
theorem fx_put {C : String} {T : u_T} {N ci index : Nat} {fs : List Value} {v : Value} {ty : FieldType} {ty0 : Nat → FieldType} {ws2 : va_W} (hC : fx_Cx p s m args c cc nL Ts own D cI cZ) (hin : ∀ w ∈ u_ws C T N, w ∈ Ts) (hty : ∀ k, k < N → parseFieldDescriptor (T k).2.2.1 = some (ty0 k)) (hnm : ∀ a, a < N → ∀ b, b < N → a ≠ b → (T a).2.1 ≠ (T b).2.1) (hH : fx_H A H0 H locs D ws) (q0 : Nat) (he : ws[q0]? = some (a, .inr (ci, fs))) (hc : vwCl[ci]? = some (C, T, N)) (k : Nat) (hk : k < N) (hlink : Cond.fieldLink own index (T k).1 (T k).2.1 (T k).2.2.1 ∈ Ts) (hfin : (T k).2.2.2 = false) (hd : ty0 k = ty) (hn : narrow ty v = v) (hfit : fits ty v = true) (hl : k < fs.length) (hw : ws.set q0 (a, .inr (ci, fs.set k v)) = ws2) (hdg : decode cc pc = .ok (.putfield index, 3))
    (kk : ∀ (H1 : Heap) (locs1 : List Loc), fx_H A H0 H1 locs1 D ws2 → W p l e R s m args below meth c H1 locs1 cells slots Q (F0 m (pc + 3) ls rest)) : W p l e R s m args below meth c H locs cells slots Q (F0 m pc ls (v :: .ref a :: rest)) := by
  obtain ⟨⟨hx, hb, -, hown, hts⟩, hK⟩ := hC
  obtain ⟨hP, hD, hS⟩ := hH
  subst hw
  exact va_put hx hb hts hin ty0 hty hnm hown hK hP hD hS q0 he hc k hk (hts _ hlink) (fun _ h9 => h9) hfin ((hty k hk).trans (congrArg some hd)) hn hfit hl hdg (fun H1 locs1 h1 h2 h3 => kk H1 locs1 ⟨h1, h2, h3⟩)
theorem fx_putF {C : String} {T : u_T} {N ci index : Nat} {fs : List Value} {v : Value} {ty : FieldType} {ty0 : Nat → FieldType} {ws2 : va_W} (hC : fx_Cx p s m args c cc nL Ts own D cI cZ) (hin : ∀ w ∈ u_ws C T N, w ∈ Ts) (hty : ∀ k, k < N → parseFieldDescriptor (T k).2.2.1 = some (ty0 k)) (hnm : ∀ a, a < N → ∀ b, b < N → a ≠ b → (T a).2.1 ≠ (T b).2.1) (hH : fx_H A H0 H locs D ws) (hini : meth.name = "<init>") (q0 : Nat) (he : ws[q0]? = some (a, .inr (ci, fs))) (hc : vwCl[ci]? = some (C, T, N)) (k : Nat) (hk : k < N) (hlink : Cond.fieldLink own index (T k).1 (T k).2.1 (T k).2.2.1 ∈ Ts) (hfin : (T k).2.2.2 = true) (hdecl : (T k).1 = own) (hd : ty0 k = ty) (hn : narrow ty v = v) (hfit : fits ty v = true) (hl : k < fs.length) (hw : ws.set q0 (a, .inr (ci, fs.set k v)) = ws2) (hdg : decode cc pc = .ok (.putfield index, 3))
    (kk : ∀ (H1 : Heap) (locs1 : List Loc), fx_H A H0 H1 locs1 D ws2 → W p l e R s m args below meth c H1 locs1 cells slots Q (F0 m (pc + 3) ls rest)) : W p l e R s m args below meth c H locs cells slots Q (F0 m pc ls (v :: .ref a :: rest)) := by
  obtain ⟨⟨hx, hb, -, hown, hts⟩, hK⟩ := hC
  obtain ⟨hP, hD, hS⟩ := hH
  subst hw
  exact va_putF hx hb hts hin ty0 hty hnm hown hK hP hD hS q0 he hc k hk (hts _ hlink) (fun _ h9 => h9) hfin hini hdecl ((hty k hk).trans (congrArg some hd)) hn hfit hl hdg (fun H1 locs1 h1 h2 h3 => kk H1 locs1 ⟨h1, h2, h3⟩)
theorem fx_ild {n : Nat} {f : Nat → Int32} {i : Int32} (hC : fx_Cx p s m args c cc nL Ts own D cI cZ) (hH : fx_H A H0 H locs D ws) (q0 : Nat) (ha : ws[q0]? = some (a, .inl (cI, n, .inl f))) (hin : vp_in i n) (hdg : decode cc pc = .ok (.iaload, 1))
    (kk : W p l e R s m args below meth c H locs cells slots Q (F0 m (pc + 1) ls (.int (f i.toNatClampNeg) :: rest))) : W p l e R s m args below meth c H locs cells slots Q (F0 m pc ls (.int i :: .ref a :: rest)) := by
  obtain ⟨⟨hx, hb, -, -, -⟩, hK⟩ := hC
  exact va_iald hx hb hK hH.1 q0 0 ha rfl hin hdg kk
theorem fx_ist {n : Nat} {f : Nat → Int32} {i x : Int32} {ws2 : va_W} (hC : fx_Cx p s m args c cc nL Ts own D cI cZ) (hH : fx_H A H0 H locs D ws) (q0 : Nat) (ha : ws[q0]? = some (a, .inl (cI, n, .inl f))) (hin : vp_in i n) (hw : ws.set q0 (a, .inl (cI, n, .inl (upd f i.toNatClampNeg x))) = ws2) (hdg : decode cc pc = .ok (.iastore, 1))
    (kk : ∀ (H1 : Heap) (locs1 : List Loc), fx_H A H0 H1 locs1 D ws2 → W p l e R s m args below meth c H1 locs1 cells slots Q (F0 m (pc + 1) ls rest)) : W p l e R s m args below meth c H locs cells slots Q (F0 m pc ls (.int x :: .int i :: .ref a :: rest)) := by
  obtain ⟨⟨hx, hb, -, -, -⟩, hK⟩ := hC
  obtain ⟨hP, hD, hS⟩ := hH
  subst hw
  exact va_iast hx hb hK hP hD hS q0 0 ha rfl hin hdg (fun H1 locs1 h1 h2 h3 => kk H1 locs1 ⟨h1, h2, h3⟩)
theorem fx_zld {n : Nat} {f : Nat → Int32} {i : Int32} (hC : fx_Cx p s m args c cc nL Ts own D cI cZ) (hH : fx_H A H0 H locs D ws) (q0 : Nat) (ha : ws[q0]? = some (a, .inl (cZ, n, .inl f))) (hin : vp_in i n) (hdg : decode cc pc = .ok (.baload, 1))
    (kk : W p l e R s m args below meth c H locs cells slots Q (F0 m (pc + 1) ls (.int (f i.toNatClampNeg) :: rest))) : W p l e R s m args below meth c H locs cells slots Q (F0 m pc ls (.int i :: .ref a :: rest)) := by
  obtain ⟨⟨hx, hb, -, -, -⟩, hK⟩ := hC
  exact va_zald hx hb hK hH.1 q0 1 ha rfl hin hdg kk
theorem fx_zst {n : Nat} {f : Nat → Int32} {i x : Int32} {ws2 : va_W} (hC : fx_Cx p s m args c cc nL Ts own D cI cZ) (hH : fx_H A H0 H locs D ws) (q0 : Nat) (ha : ws[q0]? = some (a, .inl (cZ, n, .inl f))) (hin : vp_in i n) (hw : ws.set q0 (a, .inl (cZ, n, .inl (upd f i.toNatClampNeg (vp_nar .boolean x)))) = ws2) (hdg : decode cc pc = .ok (.bastore, 1))
    (kk : ∀ (H1 : Heap) (locs1 : List Loc), fx_H A H0 H1 locs1 D ws2 → W p l e R s m args below meth c H1 locs1 cells slots Q (F0 m (pc + 1) ls rest)) : W p l e R s m args below meth c H locs cells slots Q (F0 m pc ls (.int x :: .int i :: .ref a :: rest)) := by
  obtain ⟨⟨hx, hb, -, -, -⟩, hK⟩ := hC
  obtain ⟨hP, hD, hS⟩ := hH
  subst hw
  exact va_zast hx hb hK hP hD hS q0 1 ha rfl hin hdg (fun H1 locs1 h1 h2 h3 => kk H1 locs1 ⟨h1, h2, h3⟩)
theorem fx_len {x : vp_A} {v : Int32} (hC : fx_Cx p s m args c cc nL Ts own D cI cZ) (hH : fx_H A H0 H locs D ws) (q0 : Nat) (ha : ws[q0]? = some (a, .inl (cI, x))) (hv : Int32.ofNat x.1 = v) (hdg : decode cc pc = .ok (.arraylength, 1))
    (kk : W p l e R s m args below meth c H locs cells slots Q (F0 m (pc + 1) ls (.int v :: rest))) : W p l e R s m args below meth c H locs cells slots Q (F0 m pc ls (.ref a :: rest)) := by
  obtain ⟨⟨hx, hb, -, -, -⟩, hK⟩ := hC
  exact va_alen hx hb hK hH.1 q0 0 ha rfl hv hdg kk
theorem fx_max {x y : Int32} {index : Nat} (hC : fx_Cx p s m args c cc nL Ts own D cI cZ) (hl : ls.size = nL) (hm : ∀ w ∈ ([.methodLink own index Lib.Math.max.name, .static Lib.Math.max.name, .initialized "java/lang/Math", .code Lib.Math.max.name Lib.Math.max.code 2 (some .int)] : List Cond), w ∈ Ts) (hframes : 1 ≤ R.frames) (hlocals : (rest.map fun v => v.category).sum + 13 ≤ R.locals) (hc : cells ≤ R.cells) (hs : slots ≤ R.slots) (hdg : decode cc pc = .ok (.invokestatic index, 3))
    (kk : W p l e R s m args below meth c H locs cells slots Q (F0 m (pc + 3) ls (.int (if x < y then y else x) :: rest))) : W p l e R s m args below meth c H locs cells slots Q (F0 m pc ls (.int y :: .int x :: rest)) := by
  obtain ⟨⟨hx, hb, hml, hown, hts⟩, hK⟩ := hC
  exact va_mmax hx hb (hml.trans hl.symm) hown (hts _ (hm _ (by simp))) (hts _ (hm _ (by simp))) (hts _ (hm _ (by simp))) (hts _ (hm _ (by simp))) hframes hlocals hc hs hdg kk
theorem fx_min {x y : Int32} {index : Nat} (hC : fx_Cx p s m args c cc nL Ts own D cI cZ) (hl : ls.size = nL) (hm : ∀ w ∈ ([.methodLink own index Lib.Math.min.name, .static Lib.Math.min.name, .initialized "java/lang/Math", .code Lib.Math.min.name Lib.Math.min.code 2 (some .int)] : List Cond), w ∈ Ts) (hframes : 1 ≤ R.frames) (hlocals : (rest.map fun v => v.category).sum + 13 ≤ R.locals) (hc : cells ≤ R.cells) (hs : slots ≤ R.slots) (hdg : decode cc pc = .ok (.invokestatic index, 3))
    (kk : W p l e R s m args below meth c H locs cells slots Q (F0 m (pc + 3) ls (.int (if y < x then y else x) :: rest))) : W p l e R s m args below meth c H locs cells slots Q (F0 m pc ls (.int y :: .int x :: rest)) := by
  obtain ⟨⟨hx, hb, hml, hown, hts⟩, hK⟩ := hC
  exact va_mmin hx hb (hml.trans hl.symm) hown (hts _ (hm _ (by simp))) (hts _ (hm _ (by simp))) (hts _ (hm _ (by simp))) (hts _ (hm _ (by simp))) hframes hlocals hc hs hdg kk
theorem fx_cVi {S : Type} {post : Int32 → S → Prop} {w' : S → va_W} {y : MethodName} {wsl : List Cond} {rm : Room} {As : List Value} {b : Nat} {C : String} {bytes : ByteArray} {maxL n index ci : Nat} {ret : Option FieldType} {fs : List Value} {q : vw_C} (ws2 : S → va_W) (hC : fx_Cx p s m args c cc nL Ts own D cI cZ) (hA : ∀ q, H0.size ≤ q → A q) (hH : fx_H A H0 H locs D ws)
    (hM : fx_CI l D cI cZ y wsl rm (.ref b :: As) wc w' post) (isC isR isB : List Nat) (wr : va_W) (hc1 : isC.map (fun i => ws[i]?) = wc.map some) (hc2 : isR.map (fun i => ws[i]?) = wr.map some) (hnd : (va_nd isC && va_nd isR && va_nd isB) = true) (hdis : ∀ i ∈ isR, i ∉ isC) (hB : ∀ u, isB.map (fun i => (wr ++ w' u)[i]?) = (ws2 u).map some)
    (hw : wsl = Cond.code y bytes maxL ret :: wsl.tail) (hG : GoodIn Ts (wsV own index C y wsl)) (hd : y.cls = C ∧ y.cls ≠ "java/lang/invoke/MethodHandle" ∧ y.cls ≠ "java/lang/invoke/VarHandle" ∧ (parseMethodDescriptor y.desc).map (fun d => d.parameters.length) = some n) (hRm : rm.frames + 1 ≤ R.frames ∧ 8 + (maxL + 11) + rm.locals ≤ R.locals)
    (q0 : Nat) (he : wc[q0]? = some (b, .inr (ci, fs))) (hc : vwCl[ci]? = some q) (hq : q.1 = C) (hst : st0 = As.reverse ++ .ref b :: rest) (hlen : As.length = n) (hl : ls.size = nL) (hsum : (rest.map fun v => v.category).sum ≤ 8) (hf : cells + rm.cells ≤ R.cells ∧ slots + rm.slots ≤ R.slots) (hdg : decode cc pc = .ok (.invokevirtual index, 3))
    (kk : ∀ (r : Int32) (u : S) (H : Heap) (locs : List Loc), post r u → fx_H A H0 H locs D (ws2 u) → W p l e R s m args below meth c H locs (cells + rm.cells) (slots + rm.slots) Q (F0 m (pc + 3) ls (.int r :: rest))) : W p l e R s m args below meth c H locs cells slots Q (F0 m pc ls st0) := by
  obtain ⟨hF, hK⟩ := hC
  obtain ⟨hP, hD, hS⟩ := hH
  simp only [Bool.and_eq_true] at hnd
  obtain ⟨⟨hn1, hn2⟩, hn3⟩ := hnd
  have hPc := fx_subP hP hc1
  have hDc := hD.sub isC hn1 hc1
  have hFc := va_free (wc := wc) hD hS hA isC hc1
  subst hq
  refine va_calli (va_runV (As := As) (rest := rest) hF (hM H.size) (cwV n hF.2.2.2.2 hG hw rfl rfl hd hRm) ⟨fx_blind, va_recv hK hPc hc he, fun U hU hW => ⟨rfl, by rw [hU], by rw [hU]; exact hPc, va_K.moved hW.alike hK, hDc.weaken (fun _ _ _ _ => trivial)⟩⟩ rfl hlen hl hst (lv_room hsum) hdg hf) hS (fun q _ h => hFc q h) hFc (fun r u t H1 locs1 ht hvm hw2 hB1 hz1 hk1 hS1 => ?_)
  obtain ⟨hP1, hK1, hD1⟩ := hB1
  rw [ht] at hP1
  obtain ⟨hP2, hD2⟩ := va_join (wr := wr) (w1 := w' u) hP hD isC isR hc1 hc2 hn2 hdis hk1 hFc hP1 hD1
  exact kk r u H1 locs1 hw2 (fx_H.re (ws := wr ++ w' u) ⟨hP2, hD2, hS1⟩ isB hn3 (hB u))
theorem fx_cVv {S : Type} {post : S → Prop} {w' : S → va_W} {y : MethodName} {wsl : List Cond} {rm : Room} {As : List Value} {b : Nat} {C : String} {bytes : ByteArray} {maxL n index ci : Nat} {ret : Option FieldType} {fs : List Value} {q : vw_C} (ws2 : S → va_W) (hC : fx_Cx p s m args c cc nL Ts own D cI cZ) (hA : ∀ q, H0.size ≤ q → A q) (hH : fx_H A H0 H locs D ws)
    (hM : fx_CV l D cI cZ y wsl rm (.ref b :: As) wc w' post) (isC isR isB : List Nat) (wr : va_W) (hc1 : isC.map (fun i => ws[i]?) = wc.map some) (hc2 : isR.map (fun i => ws[i]?) = wr.map some) (hnd : (va_nd isC && va_nd isR && va_nd isB) = true) (hdis : ∀ i ∈ isR, i ∉ isC) (hB : ∀ u, isB.map (fun i => (wr ++ w' u)[i]?) = (ws2 u).map some)
    (hw : wsl = Cond.code y bytes maxL ret :: wsl.tail) (hG : GoodIn Ts (wsV own index C y wsl)) (hd : y.cls = C ∧ y.cls ≠ "java/lang/invoke/MethodHandle" ∧ y.cls ≠ "java/lang/invoke/VarHandle" ∧ (parseMethodDescriptor y.desc).map (fun d => d.parameters.length) = some n) (hRm : rm.frames + 1 ≤ R.frames ∧ 8 + (maxL + 11) + rm.locals ≤ R.locals)
    (q0 : Nat) (he : wc[q0]? = some (b, .inr (ci, fs))) (hc : vwCl[ci]? = some q) (hq : q.1 = C) (hst : st0 = As.reverse ++ .ref b :: rest) (hlen : As.length = n) (hl : ls.size = nL) (hsum : (rest.map fun v => v.category).sum ≤ 8) (hf : cells + rm.cells ≤ R.cells ∧ slots + rm.slots ≤ R.slots) (hdg : decode cc pc = .ok (.invokevirtual index, 3))
    (kk : ∀ (u : S) (H : Heap) (locs : List Loc), post u → fx_H A H0 H locs D (ws2 u) → W p l e R s m args below meth c H locs (cells + rm.cells) (slots + rm.slots) Q (F0 m (pc + 3) ls rest)) : W p l e R s m args below meth c H locs cells slots Q (F0 m pc ls st0) := by
  obtain ⟨hF, hK⟩ := hC
  obtain ⟨hP, hD, hS⟩ := hH
  simp only [Bool.and_eq_true] at hnd
  obtain ⟨⟨hn1, hn2⟩, hn3⟩ := hnd
  have hPc := fx_subP hP hc1
  have hDc := hD.sub isC hn1 hc1
  have hFc := va_free (wc := wc) hD hS hA isC hc1
  subst hq
  refine va_callv (va_runV (As := As) (rest := rest) hF (hM H.size) (cwV n hF.2.2.2.2 hG hw rfl rfl hd hRm) ⟨fx_blind, va_recv hK hPc hc he, fun U hU hW => ⟨rfl, by rw [hU], by rw [hU]; exact hPc, va_K.moved hW.alike hK, hDc.weaken (fun _ _ _ _ => trivial)⟩⟩ rfl hlen hl hst (lv_room hsum) hdg hf) hS (fun q _ h => hFc q h) hFc (fun u t H1 locs1 ht hvm hw2 hB1 hz1 hk1 hS1 => ?_)
  obtain ⟨hP1, hK1, hD1⟩ := hB1
  rw [ht] at hP1
  obtain ⟨hP2, hD2⟩ := va_join (wr := wr) (w1 := w' u) hP hD isC isR hc1 hc2 hn2 hdis hk1 hFc hP1 hD1
  exact kk u H1 locs1 hw2 (fx_H.re (ws := wr ++ w' u) ⟨hP2, hD2, hS1⟩ isB hn3 (hB u))
theorem fx_cIv {S : Type} {post : S → Prop} {w' : S → va_W} {y : MethodName} {wsl : List Cond} {rm : Room} {As : List Value} {b : Nat} {bytes : ByteArray} {maxL n index : Nat} (ws2 : S → va_W) (hC : fx_Cx p s m args c cc nL Ts own D cI cZ) (hA : ∀ q, H0.size ≤ q → A q) (hH : fx_H A H0 H locs D ws)
    (hM : fx_CV l D cI cZ y wsl rm (.ref b :: As) wc w' post) (isC isR isB : List Nat) (wr : va_W) (hc1 : isC.map (fun i => ws[i]?) = wc.map some) (hc2 : isR.map (fun i => ws[i]?) = wr.map some) (hnd : (va_nd isC && va_nd isR && va_nd isB) = true) (hdis : ∀ i ∈ isR, i ∉ isC) (hB : ∀ u, isB.map (fun i => (wr ++ w' u)[i]?) = (ws2 u).map some)
    (hw : wsl = Cond.code y bytes maxL none :: wsl.tail) (hG : GoodIn Ts wsl) (hini : Cond.initialized y.cls ∈ Ts) (hlk : Cond.methodLink own index y ∈ Ts) (hinst : Cond.instanceMethod y ∈ Ts) (hy1 : y.name = "<init>") (hd : y.cls ≠ "java/lang/invoke/MethodHandle" ∧ y.cls ≠ "java/lang/invoke/VarHandle" ∧ (parseMethodDescriptor y.desc).map (fun d => d.parameters.length) = some n) (hRm : rm.frames + 1 ≤ R.frames ∧ 8 + (maxL + 11) + rm.locals ≤ R.locals)
    (hst : st0 = As.reverse ++ .ref b :: rest) (hlen : As.length = n) (hl : ls.size = nL) (hsum : (rest.map fun v => v.category).sum ≤ 8) (hf : cells + rm.cells ≤ R.cells ∧ slots + rm.slots ≤ R.slots) (hdg : decode cc pc = .ok (.invokespecial index, 3))
    (kk : ∀ (u : S) (H : Heap) (locs : List Loc), post u → fx_H A H0 H locs D (ws2 u) → W p l e R s m args below meth c H locs (cells + rm.cells) (slots + rm.slots) Q (F0 m (pc + 3) ls rest)) : W p l e R s m args below meth c H locs cells slots Q (F0 m pc ls st0) := by
  obtain ⟨hF, hK⟩ := hC
  obtain ⟨hP, hD, hS⟩ := hH
  simp only [Bool.and_eq_true] at hnd
  obtain ⟨⟨hn1, hn2⟩, hn3⟩ := hnd
  have hPc := fx_subP hP hc1
  have hDc := hD.sub isC hn1 hc1
  have hFc := va_free (wc := wc) hD hS hA isC hc1
  have hts := hF.2.2.2.2
  refine va_callv (va_runI (As := As) (rest := rest) hF (hM H.size) (cwI n hts hG hw rfl rfl (hts _ hini) (hts _ hlk) (hts _ hinst) hy1 hd hRm) ⟨fx_blind, fun U hU hW => ⟨rfl, by rw [hU], by rw [hU]; exact hPc, va_K.moved hW.alike hK, hDc.weaken (fun _ _ _ _ => trivial)⟩⟩ rfl hlen hl hst (lv_room hsum) hdg hf) hS (fun q _ h => hFc q h) hFc (fun u t H1 locs1 ht hvm hw2 hB1 hz1 hk1 hS1 => ?_)
  obtain ⟨hP1, hK1, hD1⟩ := hB1
  rw [ht] at hP1
  obtain ⟨hP2, hD2⟩ := va_join (wr := wr) (w1 := w' u) hP hD isC isR hc1 hc2 hn2 hdis hk1 hFc hP1 hD1
  exact kk u H1 locs1 hw2 (fx_H.re (ws := wr ++ w' u) ⟨hP2, hD2, hS1⟩ isB hn3 (hB u))
/-- a static method of ints alone, which reads no cell -/
theorem fx_cSi {post : Int32 → Unit → Prop} {y : MethodName} {wsl : List Cond} {rm : Room} {As : List Value} {bytes : ByteArray} {maxL n index : Nat} {ret : Option FieldType} (hC : fx_Cx p s m args c cc nL Ts own D cI cZ) (hA : ∀ q, H0.size ≤ q → A q) (hH : fx_H A H0 H locs D ws)
    (hM : fx_CI l D cI cZ y wsl rm As [] (fun _ => []) post) (hz : rm.cells = 0 ∧ rm.slots = 0)
    (hw : wsl = Cond.code y bytes maxL ret :: wsl.tail) (hG : GoodIn Ts (va_wsS own index y wsl)) (hd : y.cls ≠ "java/lang/invoke/MethodHandle" ∧ y.cls ≠ "java/lang/invoke/VarHandle" ∧ (parseMethodDescriptor y.desc).map (fun d => d.parameters.length) = some n) (hRm : rm.frames + 1 ≤ R.frames ∧ 8 + (maxL + 11) + rm.locals ≤ R.locals)
    (hst : st0 = As.reverse ++ rest) (hlen : As.length = n) (hl : ls.size = nL) (hsum : (rest.map fun v => v.category).sum ≤ 8) (hf : cells ≤ R.cells ∧ slots ≤ R.slots) (hdg : decode cc pc = .ok (.invokestatic index, 3))
    (kk : ∀ (r : Int32) (H : Heap) (locs : List Loc), post r () → fx_H A H0 H locs D ws → W p l e R s m args below meth c H locs cells slots Q (F0 m (pc + 3) ls (.int r :: rest))) : W p l e R s m args below meth c H locs cells slots Q (F0 m pc ls st0) := by
  obtain ⟨hF, hK⟩ := hC
  obtain ⟨hP, hD, hS⟩ := hH
  have hPc : va_P D vwCl [] H := fun k q h => by simp at h
  have hDc : va_D A [] := ⟨fun i j p q h => by simp at h, fun k q h => by simp at h⟩
  have hFc := va_free (wc := []) hD hS hA [] rfl
  have hts := hF.2.2.2.2
  have hf2 : cells + rm.cells ≤ R.cells ∧ slots + rm.slots ≤ R.slots := by rw [hz.1, hz.2]; exact hf
  refine va_calli (va_runS (As := As) (rest := rest) hF (hM H.size) (va_cwS n hts hG hw rfl rfl hd hRm) ⟨fx_blind, fun U hU hW => ⟨rfl, by rw [hU], by rw [hU]; exact hPc, va_K.moved hW.alike hK, hDc.weaken (fun _ _ _ _ => trivial)⟩⟩ rfl hlen hl hst (lv_room hsum) hdg hf2) hS (fun q _ h => hFc q h) hFc (fun r u t H1 locs1 ht hvm hw2 hB1 hz1 hk1 hS1 => ?_)
  obtain ⟨hP1, hK1, hD1⟩ := hB1
  rw [ht] at hP1
  have hP2 : va_P D vwCl ws H1 := hP.kept (fun k q h => hk1 q.1 (hP k q h).lt (fun hq => by
    rcases hq with ⟨k2, e2, h2⟩ | h2
    · simp at h2
    · exact absurd (hP k q h).lt (Nat.not_lt.mpr h2)))
  rw [hz.1, hz.2]
  exact kk r H1 locs1 hw2 ⟨hP2, hD, hS1⟩
/-- a static method that answers nothing -/
theorem fx_cSv {S : Type} {post : S → Prop} {w' : S → va_W} {y : MethodName} {wsl : List Cond} {rm : Room} {As : List Value} {bytes : ByteArray} {maxL n index : Nat} {ret : Option FieldType} (ws2 : S → va_W) (hC : fx_Cx p s m args c cc nL Ts own D cI cZ) (hA : ∀ q, H0.size ≤ q → A q) (hH : fx_H A H0 H locs D ws)
    (hM : fx_CV l D cI cZ y wsl rm As wc w' post) (isC isR isB : List Nat) (wr : va_W) (hc1 : isC.map (fun i => ws[i]?) = wc.map some) (hc2 : isR.map (fun i => ws[i]?) = wr.map some) (hnd : (va_nd isC && va_nd isR && va_nd isB) = true) (hdis : ∀ i ∈ isR, i ∉ isC) (hB : ∀ u, isB.map (fun i => (wr ++ w' u)[i]?) = (ws2 u).map some)
    (hw : wsl = Cond.code y bytes maxL ret :: wsl.tail) (hG : GoodIn Ts (va_wsS own index y wsl)) (hd : y.cls ≠ "java/lang/invoke/MethodHandle" ∧ y.cls ≠ "java/lang/invoke/VarHandle" ∧ (parseMethodDescriptor y.desc).map (fun d => d.parameters.length) = some n) (hRm : rm.frames + 1 ≤ R.frames ∧ 8 + (maxL + 11) + rm.locals ≤ R.locals)
    (hst : st0 = As.reverse ++ rest) (hlen : As.length = n) (hl : ls.size = nL) (hsum : (rest.map fun v => v.category).sum ≤ 8) (hf : cells + rm.cells ≤ R.cells ∧ slots + rm.slots ≤ R.slots) (hdg : decode cc pc = .ok (.invokestatic index, 3))
    (kk : ∀ (u : S) (H : Heap) (locs : List Loc), post u → fx_H A H0 H locs D (ws2 u) → W p l e R s m args below meth c H locs (cells + rm.cells) (slots + rm.slots) Q (F0 m (pc + 3) ls rest)) : W p l e R s m args below meth c H locs cells slots Q (F0 m pc ls st0) := by
  obtain ⟨hF, hK⟩ := hC
  obtain ⟨hP, hD, hS⟩ := hH
  simp only [Bool.and_eq_true] at hnd
  obtain ⟨⟨hn1, hn2⟩, hn3⟩ := hnd
  have hPc := fx_subP hP hc1
  have hDc := hD.sub isC hn1 hc1
  have hFc := va_free (wc := wc) hD hS hA isC hc1
  refine va_callv (va_runS (As := As) (rest := rest) hF (hM H.size) (va_cwS n hF.2.2.2.2 hG hw rfl rfl hd hRm) ⟨fx_blind, fun U hU hW => ⟨rfl, by rw [hU], by rw [hU]; exact hPc, va_K.moved hW.alike hK, hDc.weaken (fun _ _ _ _ => trivial)⟩⟩ rfl hlen hl hst (lv_room hsum) hdg hf) hS (fun q _ h => hFc q h) hFc (fun u t H1 locs1 ht hvm hw2 hB1 hz1 hk1 hS1 => ?_)
  obtain ⟨hP1, hK1, hD1⟩ := hB1
  rw [ht] at hP1
  obtain ⟨hP2, hD2⟩ := va_join (wr := wr) (w1 := w' u) hP hD isC isR hc1 hc2 hn2 hdis hk1 hFc hP1 hD1
  exact kk u H1 locs1 hw2 (fx_H.re (ws := wr ++ w' u) ⟨hP2, hD2, hS1⟩ isB hn3 (hB u))
theorem fx_new {C : String} {T : u_T} {N ci index : Nat} {fs : List Value} {ty0 : Nat → FieldType} (hC : fx_Cx p s m args c cc nL Ts own D cI cZ) (hin : ∀ w ∈ u_ws C T N, w ∈ Ts) (hty : ∀ k, k < N → parseFieldDescriptor (T k).2.2.1 = some (ty0 k)) (hA : ∀ q, H0.size ≤ q → A q) (hH : fx_H A H0 H locs D ws) (hc : vwCl[ci]? = some (C, T, N)) (hcl : Cond.classLink own index C ∈ Ts) (hinst : Cond.instantiable C N ∈ Ts) (hini : Cond.initialized C ∈ Ts) (hfs : ∀ j, j < N → defaultValue (ty0 j) = vp_V fs j) (hcells : cells + 1 ≤ R.cells) (hslots : slots + N ≤ R.slots) (hdg : decode cc pc = .ok (.new index, 3))
    (kk : ∀ (q : Nat) (H1 : Heap), fx_H A H0 H1 locs D (ws ++ [(q, .inr (ci, fs))]) → W p l e R s m args below meth c H1 locs (cells + 1) (slots + N) Q (F0 m (pc + 3) ls (.ref q :: rest))) : W p l e R s m args below meth c H locs cells slots Q (F0 m pc ls rest) := by
  obtain ⟨⟨hx, hb, -, hown, hts⟩, hK⟩ := hC
  obtain ⟨hP, hD, hS⟩ := hH
  exact va_new hx hb hts hin ty0 hty hown (hts _ hcl) (hts _ hinst) (hts _ hini) hK hP hD hS hA hc hfs hcells hslots hdg (fun q H1 h1 h2 h3 => kk q H1 ⟨h1, h2, h3⟩)
theorem fx_newi {n : Int32} {N' : Nat} (hC : fx_Cx p s m args c cc nL Ts own D cI cZ) (hA : ∀ q, H0.size ≤ q → A q) (hH : fx_H A H0 H locs D ws) (harr : Cond.arrayClass .int ∈ Ts) (hn : ¬ n < 0) (hN : n.toNatClampNeg = N') (hbytes : N' * 4 ≤ 536870912) (hcells : cells + 1 ≤ R.cells) (hslots : slots + N' ≤ R.slots) (hdg : decode cc pc = .ok (.newarray .int, 2))
    (kk : ∀ (q : Nat) (H1 : Heap), fx_H A H0 H1 locs D (ws ++ [(q, .inl (cI, N', .inl (fun _ => 0)))]) → W p l e R s m args below meth c H1 locs (cells + 1) (slots + N') Q (F0 m (pc + 2) ls (.ref q :: rest))) : W p l e R s m args below meth c H locs cells slots Q (F0 m pc ls (.int n :: rest)) := by
  obtain ⟨⟨hx, hb, -, hown, hts⟩, hK⟩ := hC
  obtain ⟨hP, hD, hS⟩ := hH
  refine va_newa (atype := .int) (ty := .int) (N' := N') (a0 := (N', .inl (fun _ => 0))) hx hb (hts _ harr) rfl hK hP hD hS hA (fun cA => rfl) hn hN hbytes hcells hslots hdg (fun q cA H1 hK1 h1 h2 h3 => ?_)
  have e1 : cA = cI := Option.some.inj ((hK1.2 2 (cA, .int) rfl).2.symm.trans (hK.2 0 (cI, .int) rfl).2)
  subst e1
  exact kk q H1 ⟨h1, h2, h3⟩
theorem fx_newz {n : Int32} {N' : Nat} (hC : fx_Cx p s m args c cc nL Ts own D cI cZ) (hA : ∀ q, H0.size ≤ q → A q) (hH : fx_H A H0 H locs D ws) (harr : Cond.arrayClass .boolean ∈ Ts) (hn : ¬ n < 0) (hN : n.toNatClampNeg = N') (hbytes : N' * 1 ≤ 536870912) (hcells : cells + 1 ≤ R.cells) (hslots : slots + N' ≤ R.slots) (hdg : decode cc pc = .ok (.newarray .boolean, 2))
    (kk : ∀ (q : Nat) (H1 : Heap), fx_H A H0 H1 locs D (ws ++ [(q, .inl (cZ, N', .inl (fun _ => 0)))]) → W p l e R s m args below meth c H1 locs (cells + 1) (slots + N') Q (F0 m (pc + 2) ls (.ref q :: rest))) : W p l e R s m args below meth c H locs cells slots Q (F0 m pc ls (.int n :: rest)) := by
  obtain ⟨⟨hx, hb, -, hown, hts⟩, hK⟩ := hC
  obtain ⟨hP, hD, hS⟩ := hH
  refine va_newa (atype := .boolean) (ty := .boolean) (N' := N') (a0 := (N', .inl (fun _ => 0))) hx hb (hts _ harr) rfl hK hP hD hS hA (fun cA => rfl) hn hN hbytes hcells hslots hdg (fun q cA H1 hK1 h1 h2 h3 => ?_)
  have e1 : cA = cZ := Option.some.inj ((hK1.2 2 (cA, .boolean) rfl).2.symm.trans (hK.2 1 (cZ, .boolean) rfl).2)
  subst e1
  exact kk q H1 ⟨h1, h2, h3⟩
end FX
