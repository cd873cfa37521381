section FXR
variable {p : Program} {l : Launch} {e : Env} {R : Room} {s : State} {m : MethodId} {args : Array Value} {below : List Frame} {meth : Method} {c : Code} {H : Heap} {locs : List Loc} {cells slots : Nat} {Q : State → Prop}
variable {cc : ByteArray} {pc nL : Nat} {ls : Array Slot} {rest st0 : List Value} {D : va_G} {cI cZ : ClassId} {A : Nat → Prop} {a : Nat} {ws wc wr : va_W} {H0 : Heap} {Ts : List Cond} {own : String}
theorem fx_CR.of {y : MethodName} {wsl ws' : List Cond} {rm : Room} {av : List Value} {w : va_W} {S : Type} {w' : S → Nat → va_W} {post : S → Prop} {ret : Option FieldType} (cc : ByteArray) (nL : Nat) (hy : plainName y.cls = true) (hw : wsl = Cond.code y cc nL ret :: ws') (hlen : (lg_sl av).length ≤ nL)
    (body : ∀ (p : Program) (e : Env) (s : State) (m : MethodId) (args : Array Value) (below : List Frame) (meth : Method) (c : Code) (A : Nat → Prop) (ls : Array Slot) (Q : State → Prop), Q = MQ below (va_Qr post (fun u a t => fx_end D cI cZ A (w' u a) t) A) args s rm.cells rm.slots A → fx_Cx p s m args c cc nL wsl y.cls D cI cZ → meth.sig.returnType = ret → meth.locks = false → (∀ q : Nat, s.heap.size ≤ q → A q) → fx_H A s.heap s.heap [] D w → lv_has ls nL (lv_args 0 av) →
      W p l e rm s m args below meth c s.heap [] 0 0 Q (F0 m 0 ls [])) : fx_CR l D cI cZ y wsl rm av w w' post := by
  intro sz
  refine Met.ofW (cc := cc) (maxL := nL) (ret := ret) hy hw ?_
  intro p e s m args below meth c s₁ B hml hv
  obtain ⟨rfl, hsz, hP, hK, hD0⟩ := hv
  subst hsz
  have hD := hD0.self (sz := s.heap.size)
  have hl := lv_entry av (n := nL) hlen
  rw [lg_entry_eq]
  exact body p e s m _ below meth c (va_A w s.heap.size) _ _ rfl ⟨⟨B.exec, B.bytes, hml, findClass_of_methodNamed B.named, atoms_spec (ws := wsl) B.pre⟩, hK⟩ B.returns B.notSynchronized (fun q h => Or.inr h) ⟨hP, hD, va_S.rf⟩ hl
theorem fx_aret {S : Type} {w' : S → Nat → va_W} {post : S → Prop} {b : Nat} {ty : FieldType} {mc ms : Nat} (hQ : Q = MQ below (va_Qr post (fun u a t => fx_end D cI cZ A (w' u a) t) A) args s mc ms A) (hC : fx_Cx p s m args c cc nL Ts own D cI cZ) (hr : meth.sig.returnType = some (.array ty)) (hlocks : meth.locks = false) (hH : fx_H A s.heap H locs D ws) (hdg : decode cc pc = .ok (.areturn, 1)) (hc : cells ≤ mc) (hs : slots ≤ ms) (u : S) (hw : ws = w' u b) (hp : post u) :
    W p l e R s m args below meth c H locs cells slots Q (F0 m pc ls [.ref b]) := by
  subst hQ
  obtain ⟨⟨hx, hb, -, -, -⟩, hK⟩ := hC
  obtain ⟨hP, hD, hS⟩ := hH
  subst hw
  refine W.widen hc hs ?_
  exact W.aret (v := .ref b) hx hb hr (Or.inr ⟨_, rfl⟩) (Or.inr ⟨_, rfl⟩) (fun t ht hW => ⟨⟨u, b, rfl, hp, by rw [ht]; exact hP, va_K.moved hW.alike hK, hD⟩, hS.F ht⟩) hS.2.2 hdg hlocks
theorem fx_cSr {S : Type} {post : S → Prop} {w' : S → Nat → va_W} {y : MethodName} {wsl : List Cond} {rm : Room} {As : List Value} {bytes : ByteArray} {maxL n index : Nat} {ret : Option FieldType} (ws2 : S → Nat → va_W) (hC : fx_Cx p s m args c cc nL Ts own D cI cZ) (hA : ∀ q, H0.size ≤ q → A q) (hH : fx_H A H0 H locs D ws)
    (hM : fx_CR l D cI cZ y wsl rm As wc w' post) (isC isR isB : List Nat) (wr : va_W) (hc1 : isC.map (fun i => ws[i]?) = wc.map some) (hc2 : isR.map (fun i => ws[i]?) = wr.map some) (hnd : (va_nd isC && va_nd isR && va_nd isB) = true) (hdis : ∀ i ∈ isR, i ∉ isC) (hB : ∀ u a, isB.map (fun i => (wr ++ w' u a)[i]?) = (ws2 u a).map some)
    (hw : wsl = Cond.code y bytes maxL ret :: wsl.tail) (hG : GoodIn Ts (va_wsS own index y wsl)) (hd : y.cls ≠ "java/lang/invoke/MethodHandle" ∧ y.cls ≠ "java/lang/invoke/VarHandle" ∧ (parseMethodDescriptor y.desc).map (fun d => d.parameters.length) = some n) (hRm : rm.frames + 1 ≤ R.frames ∧ 8 + (maxL + 11) + rm.locals ≤ R.locals)
    (hst : st0 = As.reverse ++ rest) (hlen : As.length = n) (hl : ls.size = nL) (hsum : (rest.map fun v => v.category).sum ≤ 8) (hf : cells + rm.cells ≤ R.cells ∧ slots + rm.slots ≤ R.slots) (hdg : decode cc pc = .ok (.invokestatic index, 3))
    (kk : ∀ (u : S) (b : Nat) (H : Heap) (locs : List Loc), post u → fx_H A H0 H locs D (ws2 u b) → W p l e R s m args below meth c H locs (cells + rm.cells) (slots + rm.slots) Q (F0 m (pc + 3) ls (.ref b :: rest))) : W p l e R s m args below meth c H locs cells slots Q (F0 m pc ls st0) := by
  obtain ⟨hF, hK⟩ := hC
  obtain ⟨hP, hD, hS⟩ := hH
  simp only [Bool.and_eq_true] at hnd
  obtain ⟨⟨hn1, hn2⟩, hn3⟩ := hnd
  have hPc := fx_subP hP hc1
  have hDc := hD.sub isC hn1 hc1
  have hFc := va_free (wc := wc) hD hS hA isC hc1
  refine va_callr (va_runS (As := As) (rest := rest) hF (hM H.size) (va_cwS n hF.2.2.2.2 hG hw rfl rfl hd hRm) ⟨fx_blind, fun U hU hW => ⟨rfl, by rw [hU], by rw [hU]; exact hPc, va_K.moved hW.alike hK, hDc.weaken (fun _ _ _ _ => trivial)⟩⟩ rfl hlen hl hst (lv_room hsum) hdg hf) hS (fun q _ h => hFc q h) hFc (fun u b t H1 locs1 ht hvm hw2 hB1 hz1 hk1 hS1 => ?_)
  obtain ⟨hP1, hK1, hD1⟩ := hB1
  rw [ht] at hP1
  obtain ⟨hP2, hD2⟩ := va_join (wr := wr) (w1 := w' u b) hP hD isC isR hc1 hc2 hn2 hdis hk1 hFc hP1 hD1
  exact kk u b H1 locs1 hw2 (fx_H.re (ws := wr ++ w' u b) ⟨hP2, hD2, hS1⟩ isB hn3 (hB u b))
theorem fx_copy {a0 n0 n1 index : Nat} {f g : Nat → Int32} {sp dp n : Int32} {ws2 : va_W} (hC : fx_Cx p s m args c cc nL Ts own D cI cZ) (hl : ls.size = nL) (hm : ∀ w ∈ ([.methodLink own index arraycopyName, .native arraycopyName, .static arraycopyName, .initialized "java/lang/System"] : List Cond), w ∈ Ts) (hH : fx_H A H0 H locs D ws) (q0 q1 : Nat) (ha0 : ws[q0]? = some (a0, .inl (cI, n0, .inl f))) (ha1 : ws[q1]? = some (a, .inl (cI, n1, .inl g)))
    (h1 : ¬ sp < 0) (h2 : ¬ dp < 0) (h3 : ¬ n < 0) (h4 : sp.toNatClampNeg + n.toNatClampNeg ≤ n0) (h5 : dp.toNatClampNeg + n.toNatClampNeg ≤ n1) (hframes : 1 ≤ R.frames) (hlocals : (rest.map fun v => v.category).sum + (nativeFrameWords "java/lang/System" "arraycopy" 5 + 11) ≤ R.locals) (hw : ws.set q1 (a, .inl (cI, n1, .inl (va_cpy f g sp.toNatClampNeg dp.toNatClampNeg n.toNatClampNeg))) = ws2) (hdg : decode cc pc = .ok (.invokestatic index, 3))
    (kk : ∀ (H1 : Heap) (locs1 : List Loc), fx_H A H0 H1 locs1 D ws2 → W p l e R s m args below meth c H1 locs1 cells slots Q (F0 m (pc + 3) ls rest)) : W p l e R s m args below meth c H locs cells slots Q (F0 m pc ls (.int n :: .int dp :: .ref a :: .int sp :: .ref a0 :: rest)) := by
  obtain ⟨⟨hx, hb, hml, hown, hts⟩, hK⟩ := hC
  obtain ⟨hP, hD, hS⟩ := hH
  subst hw
  exact va_copyi hx hb (hml.trans hl.symm) hown (hts _ (hm _ (by simp))) (hts _ (hm _ (by simp))) (hts _ (hm _ (by simp))) (hts _ (hm _ (by simp))) hK hP hD hS q0 q1 0 0 ha0 ha1 rfl rfl rfl h1 h2 h3 h4 h5 (fun _ _ => rfl) hframes hlocals hdg (fun H1 locs1 h1 h2 h3 => kk H1 locs1 ⟨h1, h2, h3⟩)
end FXR
