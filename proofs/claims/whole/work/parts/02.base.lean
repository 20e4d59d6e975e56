/-! BASE: a world is a list of cells wd; hH says that the heap holds it, that it is apart, that the class tables and the array classes are known -/
abbrev hG : Type := va_G × (Nat → ClassId)
abbrev hTY (G : hG) : List (ClassId × FieldType) := [(G.2 0, .int), (G.2 1, .boolean), (G.2 2, .object RX0), (G.2 3, .object RX1), (G.2 4, .object RX2), (G.2 5, .object RX3), (G.2 6, .object RX4), (G.2 7, .object RX5), (G.2 8, .array .int)]
/-! what the tables say of private members of nest mates and of arrays of references: it holds in every state that comes -/
def hNF : List (String × Nat × String × String × String × String) := [(RX6, 112, "LiveUpgrader$CallStack", "size", "I", RX6), (RX6, 120, "LiveUpgrader$Frame", "history", "LLiveUpgrader$ClassHistory;", RX6), (RX6, 126, "LiveUpgrader$ClassHistory", "type", "I", RX6), (RX6, 129, "LiveUpgrader$Frame", "version", "I", RX6), (RX6, 157, "LiveUpgrader$StoredObject", "history", "LLiveUpgrader$ClassHistory;", RX6), (RX6, 158, "LiveUpgrader$StoredObject", "version", "I", RX6), (RX6, 162, "LiveUpgrader$StoredObject", "firstVersion", "I", RX6), (RX6, 42, "LiveUpgrader$ClassHistory", "current", "I", RX6), (RX6, 50, "LiveUpgrader$ClassHistory", "staged", "Z", RX6), (RX0, 30, "LiveUpgrader$Frame", "history", "LLiveUpgrader$ClassHistory;", RX6), (RX0, 34, "LiveUpgrader$ClassHistory", "type", "I", RX6), (RX0, 39, "LiveUpgrader$Frame", "version", "I", RX6), (RX1, 58, "LiveUpgrader$Converter", "length", "I", RX6), (RX3, 13, "LiveUpgrader$ClassHistory", "current", "I", RX6), (RX5, 33, "LiveUpgrader$ClassHistory", "converters", "[LLiveUpgrader$Converter;", RX6)]
def hNM : List (String × Nat × MethodName × String) := [(RX4, 29, yX6_isValue, RX6), (RX4, 23, yX6_isField, RX6), (RX1, 25, yX2_init, RX6), (RX6, 21, yX0_init, RX6)]
def hNA : List String := [RX0, RX1, RX2, RX3, RX4, RX5]
def hNw (U : State) : Prop := (∀ q ∈ hNF, va_Nw (.fieldLinkNest q.1 q.2.1 q.2.2.1 q.2.2.2.1 q.2.2.2.2.1 q.2.2.2.2.2) U) ∧ (∀ q ∈ hNM, va_Nw (.methodLinkNest q.1 q.2.1 q.2.2.1 q.2.2.2) U) ∧ (∀ C ∈ hNA, va_AO C U) ∧ va_AOA .int U
theorem aovA_spec {A : Array Value} {s : State} (h : (Cond.arrayOver (.array .int)).before A s = true) :
    ∃ comp c k, s.vm.findClass (FieldType.array .int).toString = some comp ∧ (s.vm.classes.findIdx? fun x => match x.kind with | .array component _ => component == comp | _ => false) = some c ∧ s.vm.classes[c]? = some k ∧ k.kind = .array comp (.array .int) ∧ s.vm.findClass ("[" ++ (FieldType.array .int).toString) = some c := by
  unfold Cond.before at h
  simp only [Cond.holds, Cond.value, beq_iff_eq] at h
  cases hc : s.vm.findClass (FieldType.array .int).toString with
  | none => simp [hc] at h
  | some comp =>
    simp only [hc, Option.bind_some, Option.bind_eq_some_iff, Option.map_eq_some_iff] at h
    obtain ⟨c, hi, k, hk, hb⟩ := h
    obtain ⟨hlt, hp, -⟩ := Array.findIdx?_eq_some_iff_getElem.mp hi
    have hkk : s.vm.classes[c] = k := (Array.getElem?_eq_some_iff.mp hk).2
    rw [hkk] at hp
    cases hkind : k.kind with
    | array component ty =>
      rw [hkind] at hb hp
      simp at hb hp
      exact ⟨comp, c, k, rfl, hi, hk, by rw [hkind, hp, hb.1], hb.2⟩
    | _ => rw [hkind] at hb; simp at hb
theorem va_AOA.moved {u U : State} (hvm : u.vm.Alike U.vm) (h : va_AOA .int u) : va_AOA .int U := by
  obtain ⟨comp, c, k, h1, h2, h3, h4, h5⟩ := aovA_spec h
  obtain ⟨k', hk', he⟩ := hvm.2.2 _ _ h3
  have hi : (U.vm.classes.findIdx? fun (x : Class) => match x.kind with | .array component _ => component == comp | _ => false) = some c := by
    have e1 := va_idx_bare U.vm comp
    have e2 := va_idx_bare u.vm comp
    rw [hvm.bare_eq] at e1
    exact e1.symm.trans (e2.trans h2)
  have hkind : k'.kind = .array comp (.array .int) := by rw [he]; exact h4
  have f1 : U.vm.findClass (FieldType.array .int).toString = some comp := by rw [hvm.findClass]; exact h1
  have f2 : U.vm.findClass ("[" ++ (FieldType.array .int).toString) = some c := by rw [hvm.findClass]; exact h5
  unfold va_AOA Cond.before Cond.holds
  simp only [Cond.value]
  rw [f1, Option.bind_some]
  refine (congrArg (fun o : Option Nat => (o.bind (fun c => (U.vm.classes[c]?).map fun (k : Class) => match k.kind with | .array _ ty => decide (ty = FieldType.array .int) && decide (U.vm.findClass ("[" ++ (FieldType.array .int).toString) = some c) | _ => false) == some true)) hi).trans ?_
  simp [hk', hkind, f2]
theorem hNw.warm {s U : State} (hW : s.WarmedH U.vm) (h : hNw s) : hNw U := ⟨fun q hq => va_Nw.warmF hW (h.1 q hq), fun q hq => va_Nw.warmM hW (h.2.1 q hq), fun C hC => va_AO.moved hW.alike (h.2.2.1 C hC), va_AOA.moved hW.alike h.2.2.2⟩
theorem hNw.same {u U : State} (e : u.vm = U.vm) (h : hNw u) : hNw U := ⟨fun q hq => va_Nw.same rfl e (h.1 q hq), fun q hq => va_Nw.same rfl e (h.2.1 q hq), fun C hC => va_AO.moved (e ▸ Vm.Alike.refl _) (h.2.2.1 C hC), va_AOA.moved (e ▸ Vm.Alike.refl _) h.2.2.2⟩
def hH (G : hG) (A : Nat → Prop) (H0 : Heap) (s : State) (wd : va_W) (H : Heap) (locs : List Loc) : Prop :=
  va_K G.1 vwCl (hTY G) s ∧ va_P G.1 vwCl wd H ∧ va_D A wd ∧ va_S A H0 H locs ∧ (∀ q, H0.size ≤ q → A q) ∧ hNw s
abbrev hAI (G : hG) (n : Nat) (f : Nat → Int32) : va_E := .inl (G.2 0, n, .inl f)
abbrev hAQ (G : hG) (t n : Nat) (f : Nat → Option Nat) : va_E := .inl (G.2 t, n, .inr (.inr (.inr (.inr f))))
abbrev hPre (G : hG) (wd : va_W) (av : List Value) (sz : Nat) : Array Value → State → Prop := va_Pc av (fun U => U.heap.size = sz ∧ va_P G.1 vwCl wd U.heap ∧ va_K G.1 vwCl (hTY G) U ∧ va_D (fun _ => True) wd ∧ hNw U)
abbrev hB (G : hG) (A : Nat → Prop) : va_W → State → Prop := fun wd t => va_P G.1 vwCl wd t.heap ∧ va_K G.1 vwCl (hTY G) t ∧ va_D A wd
/-- the contract of a method that answers an int (or a boolean) -/
def hMi (l : Launch) (G : hG) (y : MethodName) (ws : List Cond) (rm : Room) (wd : va_W) (av : List Value) (post : Int32 → va_W → Prop) : Prop :=
  ∀ sz : Nat, Met l y ws rm (hPre G wd av sz) (va_Qi post (hB G (va_A wd sz)) (va_A wd sz)) rm.cells rm.slots (va_A wd sz)
/-- of a method without an answer -/
def hMv (l : Launch) (G : hG) (y : MethodName) (ws : List Cond) (rm : Room) (wd : va_W) (av : List Value) (post : va_W → Prop) : Prop :=
  ∀ sz : Nat, Met l y ws rm (hPre G wd av sz) (va_Qv post (hB G (va_A wd sz)) (va_A wd sz)) rm.cells rm.slots (va_A wd sz)
/-- of a method that answers a reference or null -/
def hMq (l : Launch) (G : hG) (y : MethodName) (ws : List Cond) (rm : Room) (wd : va_W) (av : List Value) (post : Option Nat → va_W → Prop) : Prop :=
  ∀ sz : Nat, Met l y ws rm (hPre G wd av sz) (va_Qq post (hB G (va_A wd sz)) (va_A wd sz)) rm.cells rm.slots (va_A wd sz)
section HXE
variable {l : Launch} {G : hG} {y : MethodName} {ws ws' : List Cond} {rm : Room} {wd : va_W} {av : List Value} {cc : ByteArray} {maxL : Nat}
theorem hx_enter {p : Program} {e : Env} {s : State} {m : MethodId} {below : List Frame} {meth : Method} {c : Code} {s₁ : State} {args : Array Value} {ret : Option FieldType} {Q : State → Prop} (own : String) (hown0 : y.cls = own) (hlen : (lg_sl av).length ≤ maxL) (B : BodyLoose p l y (headSpec ws rm) cc maxL ret e s m args below meth c s₁) (hml : c.maxLocals = maxL) {sz : Nat} (hv : hPre G wd av sz args s)
    (k : sz = s.heap.size → args = av.toArray → CallFix p m c cc maxL s args ws own → meth.sig.returnType = ret → meth.locks = false → hH G (va_A wd s.heap.size) s.heap s wd s.heap [] → ∀ ls, lv_has ls maxL (lv_args 0 av) → W p l e rm s m args below meth c s.heap [] 0 0 Q (F0 m 0 ls [])) :
    W p l e (headSpec ws rm).room s m args below meth c s.heap [] 0 0 Q (entryFrame m args maxL) := by
  obtain ⟨ha, hsz, hP, hK, hD0, hN⟩ := hv
  subst hown0
  have hts := atoms_spec (ws := ws) B.pre
  have hown : s.vm.findClass y.cls = some m.cls := findClass_of_methodNamed B.named
  have hl := lv_entry av (n := maxL) hlen
  have h := k hsz.symm ha ⟨B.exec, B.bytes, hml, hown, hts⟩ B.returns B.notSynchronized ⟨hK, hP, hD0.self, va_S.rf, fun q h => Or.inr h, hN⟩ _ hl
  rw [ha] at h ⊢
  rw [lg_entry_eq]
  exact h
theorem hMi.of (ret : Option FieldType) (own : String) (hown : y.cls = own) (hy : plainName y.cls = true) (hw : ws = Cond.code y cc maxL ret :: ws') (hlen : (lg_sl av).length ≤ maxL) {post : Int32 → va_W → Prop}
    (k : ∀ (p : Program) (e : Env) (s : State) (m : MethodId) (args : Array Value) (below : List Frame) (meth : Method) (c : Code), CallFix p m c cc maxL s args ws own → meth.sig.returnType = ret → meth.locks = false → hH G (va_A wd s.heap.size) s.heap s wd s.heap [] → ∀ ls, lv_has ls maxL (lv_args 0 av) →
      W p l e rm s m args below meth c s.heap [] 0 0 (MQ below (va_Qi post (hB G (va_A wd s.heap.size)) (va_A wd s.heap.size)) args s rm.cells rm.slots (va_A wd s.heap.size)) (F0 m 0 ls [])) : hMi l G y ws rm wd av post := by
  intro sz
  refine Met.ofW hy hw ?_
  intro p e s m args below meth c s₁ B hml hv
  refine hx_enter own hown hlen B hml hv fun hsz ha S hr hlk X ls hl => ?_
  subst hsz
  exact k p e s m args below meth c S hr hlk X ls hl
theorem hMv.of (ret : Option FieldType) (own : String) (hown : y.cls = own) (hy : plainName y.cls = true) (hw : ws = Cond.code y cc maxL ret :: ws') (hlen : (lg_sl av).length ≤ maxL) {post : va_W → Prop}
    (k : ∀ (p : Program) (e : Env) (s : State) (m : MethodId) (args : Array Value) (below : List Frame) (meth : Method) (c : Code), CallFix p m c cc maxL s args ws own → meth.sig.returnType = ret → meth.locks = false → (meth.name = y.name) → hH G (va_A wd s.heap.size) s.heap s wd s.heap [] → ∀ ls, lv_has ls maxL (lv_args 0 av) →
      W p l e rm s m args below meth c s.heap [] 0 0 (MQ below (va_Qv post (hB G (va_A wd s.heap.size)) (va_A wd s.heap.size)) args s rm.cells rm.slots (va_A wd s.heap.size)) (F0 m 0 ls [])) : hMv l G y ws rm wd av post := by
  intro sz
  refine Met.ofW hy hw ?_
  intro p e s m args below meth c s₁ B hml hv
  refine hx_enter own hown hlen B hml hv fun hsz ha S hr hlk X ls hl => ?_
  subst hsz
  exact k p e s m args below meth c S hr hlk (name_of_methodNamed B.named B.method).1 X ls hl
theorem hMq.of (ret : Option FieldType) (own : String) (hown : y.cls = own) (hy : plainName y.cls = true) (hw : ws = Cond.code y cc maxL ret :: ws') (hlen : (lg_sl av).length ≤ maxL) {post : Option Nat → va_W → Prop}
    (k : ∀ (p : Program) (e : Env) (s : State) (m : MethodId) (args : Array Value) (below : List Frame) (meth : Method) (c : Code), CallFix p m c cc maxL s args ws own → meth.sig.returnType = ret → meth.locks = false → hH G (va_A wd s.heap.size) s.heap s wd s.heap [] → ∀ ls, lv_has ls maxL (lv_args 0 av) →
      W p l e rm s m args below meth c s.heap [] 0 0 (MQ below (va_Qq post (hB G (va_A wd s.heap.size)) (va_A wd s.heap.size)) args s rm.cells rm.slots (va_A wd s.heap.size)) (F0 m 0 ls [])) : hMq l G y ws rm wd av post := by
  intro sz
  refine Met.ofW hy hw ?_
  intro p e s m args below meth c s₁ B hml hv
  refine hx_enter own hown hlen B hml hv fun hsz ha S hr hlk X ls hl => ?_
  subst hsz
  exact k p e s m args below meth c S hr hlk X ls hl
end HXE
section HX
variable {p : Program} {l : Launch} {e : Env} {R : Room} {s : State} {m : MethodId} {args : Array Value} {below : List Frame} {meth : Method} {c : Code} {H H0 : Heap} {locs : List Loc} {cells slots : Nat} {Q : State → Prop}
variable {cc : ByteArray} {nL pc : Nat} {ls : Array Slot} {rest : List Value} {Ts : List Cond} {own : String} {A A1 : Nat → Prop} {wd : va_W} {G : hG}
/-- another word for the int on top -/
theorem hx_ei {x y : Int32} (h : x = y) (k : W p l e R s m args below meth c H locs cells slots Q (F0 m pc ls (.int y :: rest))) : W p l e R s m args below meth c H locs cells slots Q (F0 m pc ls (.int x :: rest)) := h ▸ k
theorem hx_el {x y : Int64} (h : x = y) (k : W p l e R s m args below meth c H locs cells slots Q (F0 m pc ls (.long y :: rest))) : W p l e R s m args below meth c H locs cells slots Q (F0 m pc ls (.long x :: rest)) := h ▸ k
theorem hx_eq {x y : Option Nat} (h : x = y) (k : W p l e R s m args below meth c H locs cells slots Q (F0 m pc ls (va_rf y :: rest))) : W p l e R s m args below meth c H locs cells slots Q (F0 m pc ls (va_rf x :: rest)) := h ▸ k
/-- the same world in other words -/
theorem hH.to {wd' : va_W} (X : hH G A H0 s wd H locs) (h : wd = wd') : hH G A H0 s wd' H locs := h ▸ X
theorem hx_getL (S : CallFix p m c cc nL s args Ts own) (X : hH G A H0 s wd H locs) {C : String} {T : u_T} {N ci index a : Nat} (q0 : Nat) {fs : List Value} (he : wd[q0]? = some (a, .inr (ci, fs))) (hc : vwCl[ci]? = some (C, T, N)) (hin : ∀ w ∈ u_ws C T N, w ∈ Ts) (k : Nat) (hk : k < N) (hlink : Cond.fieldLink own index (T k).1 (T k).2.1 (T k).2.2.1 ∈ Ts) {v : Value} (hv : fs[k]? = some v) (hdg : decode cc pc = .ok (.getfield index, 3))
    (kk : W p l e R s m args below meth c H locs cells slots Q (F0 m (pc + 3) ls (v :: rest))) : W p l e R s m args below meth c H locs cells slots Q (F0 m pc ls (.ref a :: rest)) :=
  va_get (D := G.1) (cl := vwCl) (tys := hTY G) S.1 S.2.1 S.2.2.2.2 hin S.2.2.2.1 X.1 X.2.1 q0 he hc k hk (S.2.2.2.2 _ hlink) (fun _ h9 => h9) hv hdg kk
theorem hx_putL (S : CallFix p m c cc nL s args Ts own) (X : hH G A H0 s wd H locs) {C : String} {T : u_T} {N ci index a : Nat} {ty0 : Nat → FieldType} (hty : ∀ k, k < N → parseFieldDescriptor (T k).2.2.1 = some (ty0 k)) (hnm : ∀ a, a < N → ∀ b, b < N → a ≠ b → (T a).2.1 ≠ (T b).2.1) (q0 : Nat) {fs : List Value} (he : wd[q0]? = some (a, .inr (ci, fs))) (hc : vwCl[ci]? = some (C, T, N)) (hin : ∀ w ∈ u_ws C T N, w ∈ Ts) (k : Nat) (hk : k < N) (hlink : Cond.fieldLink own index (T k).1 (T k).2.1 (T k).2.2.1 ∈ Ts) (hfin : (T k).2.2.2 = false) {v : Value} (hn : narrow (ty0 k) v = v) (hfit : fits (ty0 k) v = true) (hl : k < fs.length) (hdg : decode cc pc = .ok (.putfield index, 3))
    {wd' : va_W} (hw : wd.set q0 (a, .inr (ci, fs.set k v)) = wd') (kk : ∀ (H1 : Heap) (locs1 : List Loc), hH G A H0 s wd' H1 locs1 → W p l e R s m args below meth c H1 locs1 cells slots Q (F0 m (pc + 3) ls rest)) : W p l e R s m args below meth c H locs cells slots Q (F0 m pc ls (v :: .ref a :: rest)) := by
  subst hw
  exact va_put (D := G.1) (cl := vwCl) (tys := hTY G) S.1 S.2.1 S.2.2.2.2 hin ty0 hty hnm S.2.2.2.1 X.1 X.2.1 X.2.2.1 X.2.2.2.1 q0 he hc k hk (S.2.2.2.2 _ hlink) (fun _ h9 => h9) hfin (hty k hk) hn hfit hl hdg (fun H1 locs1 hP hD hS => kk H1 locs1 ⟨X.1, hP, hD, hS, X.2.2.2.2⟩)
theorem hx_putFL (S : CallFix p m c cc nL s args Ts own) (X : hH G A H0 s wd H locs) {C : String} {T : u_T} {N ci index a : Nat} {ty0 : Nat → FieldType} (hty : ∀ k, k < N → parseFieldDescriptor (T k).2.2.1 = some (ty0 k)) (hnm : ∀ a, a < N → ∀ b, b < N → a ≠ b → (T a).2.1 ≠ (T b).2.1) (q0 : Nat) {fs : List Value} (he : wd[q0]? = some (a, .inr (ci, fs))) (hc : vwCl[ci]? = some (C, T, N)) (hin : ∀ w ∈ u_ws C T N, w ∈ Ts) (k : Nat) (hk : k < N) (hlink : Cond.fieldLink own index (T k).1 (T k).2.1 (T k).2.2.1 ∈ Ts) (hfin : (T k).2.2.2 = true) (hin2 : meth.name = "<init>") (hcls : (T k).1 = own) {v : Value} (hn : narrow (ty0 k) v = v) (hfit : fits (ty0 k) v = true) (hl : k < fs.length) (hdg : decode cc pc = .ok (.putfield index, 3))
    {wd' : va_W} (hw : wd.set q0 (a, .inr (ci, fs.set k v)) = wd') (kk : ∀ (H1 : Heap) (locs1 : List Loc), hH G A H0 s wd' H1 locs1 → W p l e R s m args below meth c H1 locs1 cells slots Q (F0 m (pc + 3) ls rest)) : W p l e R s m args below meth c H locs cells slots Q (F0 m pc ls (v :: .ref a :: rest)) := by
  subst hw
  exact va_putF (D := G.1) (cl := vwCl) (tys := hTY G) S.1 S.2.1 S.2.2.2.2 hin ty0 hty hnm S.2.2.2.1 X.1 X.2.1 X.2.2.1 X.2.2.2.1 q0 he hc k hk (S.2.2.2.2 _ hlink) (fun _ h9 => h9) hfin hin2 hcls (hty k hk) hn hfit hl hdg (fun H1 locs1 hP hD hS => kk H1 locs1 ⟨X.1, hP, hD, hS, X.2.2.2.2⟩)
theorem hx_getN (S : CallFix p m c cc nL s args Ts own) (X : hH G A H0 s wd H locs) {C : String} {T : u_T} {N ci index a : Nat} {host : String} (q0 : Nat) {fs : List Value} (he : wd[q0]? = some (a, .inr (ci, fs))) (hc : vwCl[ci]? = some (C, T, N)) (hin : ∀ w ∈ u_ws C T N, w ∈ Ts) (k : Nat) (hk : k < N) (hlink : (own, index, (T k).1, (T k).2.1, (T k).2.2.1, host) ∈ hNF) {v : Value} (hv : fs[k]? = some v) (hdg : decode cc pc = .ok (.getfield index, 3))
    (kk : W p l e R s m args below meth c H locs cells slots Q (F0 m (pc + 3) ls (v :: rest))) : W p l e R s m args below meth c H locs cells slots Q (F0 m pc ls (.ref a :: rest)) :=
  va_getN (D := G.1) (cl := vwCl) (tys := hTY G) S.1 S.2.1 S.2.2.2.2 hin S.2.2.2.1 X.1 X.2.1 q0 he hc k hk (va_Nw.use rfl (X.2.2.2.2.2.1 _ hlink)) (fun _ h9 => h9) hv hdg kk
theorem hx_iald (S : CallFix p m c cc nL s args Ts own) (X : hH G A H0 s wd H locs) {a : Nat} (q0 : Nat) {n : Nat} {f : Nat → Int32} (ha : wd[q0]? = some (a, hAI G n f)) {i : Int32} (hin : vp_in i n) {x : Int32} (hx : f i.toNatClampNeg = x) (hdg : decode cc pc = .ok (.iaload, 1))
    (kk : W p l e R s m args below meth c H locs cells slots Q (F0 m (pc + 1) ls (.int x :: rest))) : W p l e R s m args below meth c H locs cells slots Q (F0 m pc ls (.int i :: .ref a :: rest)) :=
  va_iald (D := G.1) (cl := vwCl) (tys := hTY G) S.1 S.2.1 X.1 X.2.1 q0 0 ha rfl hin hdg (hx ▸ kk)
theorem hx_iast (S : CallFix p m c cc nL s args Ts own) (X : hH G A H0 s wd H locs) {a : Nat} (q0 : Nat) {n : Nat} {f : Nat → Int32} (ha : wd[q0]? = some (a, hAI G n f)) {i : Int32} (j : Nat) (hj : i.toNatClampNeg = j) (hin : vp_in i n) {x : Int32} (hdg : decode cc pc = .ok (.iastore, 1))
    {wd' : va_W} (hw : wd.set q0 (a, hAI G n (upd f j x)) = wd') (kk : ∀ (H1 : Heap) (locs1 : List Loc), hH G A H0 s wd' H1 locs1 → W p l e R s m args below meth c H1 locs1 cells slots Q (F0 m (pc + 1) ls rest)) : W p l e R s m args below meth c H locs cells slots Q (F0 m pc ls (.int x :: .int i :: .ref a :: rest)) := by
  subst hw
  subst hj
  exact va_iast (D := G.1) (cl := vwCl) (tys := hTY G) S.1 S.2.1 X.1 X.2.1 X.2.2.1 X.2.2.2.1 q0 0 ha rfl hin hdg (fun H1 locs1 hP hD hS => kk H1 locs1 ⟨X.1, hP, hD, hS, X.2.2.2.2⟩)
abbrev hAZ (G : hG) (n : Nat) (f : Nat → Int32) : va_E := .inl (G.2 1, n, .inl f)
theorem hx_zald (S : CallFix p m c cc nL s args Ts own) (X : hH G A H0 s wd H locs) {a : Nat} (q0 : Nat) {n : Nat} {f : Nat → Int32} (ha : wd[q0]? = some (a, hAZ G n f)) {i : Int32} (hin : vp_in i n) {x : Int32} (hx : f i.toNatClampNeg = x) (hdg : decode cc pc = .ok (.baload, 1))
    (kk : W p l e R s m args below meth c H locs cells slots Q (F0 m (pc + 1) ls (.int x :: rest))) : W p l e R s m args below meth c H locs cells slots Q (F0 m pc ls (.int i :: .ref a :: rest)) :=
  va_zald (D := G.1) (cl := vwCl) (tys := hTY G) S.1 S.2.1 X.1 X.2.1 q0 1 ha rfl hin hdg (hx ▸ kk)
theorem hx_zast (S : CallFix p m c cc nL s args Ts own) (X : hH G A H0 s wd H locs) {a : Nat} (q0 : Nat) {n : Nat} {f : Nat → Int32} (ha : wd[q0]? = some (a, hAZ G n f)) {i : Int32} (j : Nat) (hj : i.toNatClampNeg = j) (hin : vp_in i n) {x : Int32} (hz : vp_nar .boolean x = x) (hdg : decode cc pc = .ok (.bastore, 1))
    {wd' : va_W} (hw : wd.set q0 (a, hAZ G n (upd f j x)) = wd') (kk : ∀ (H1 : Heap) (locs1 : List Loc), hH G A H0 s wd' H1 locs1 → W p l e R s m args below meth c H1 locs1 cells slots Q (F0 m (pc + 1) ls rest)) : W p l e R s m args below meth c H locs cells slots Q (F0 m pc ls (.int x :: .int i :: .ref a :: rest)) := by
  subst hw
  subst hj
  refine va_zast (D := G.1) (cl := vwCl) (tys := hTY G) S.1 S.2.1 X.1 X.2.1 X.2.2.1 X.2.2.2.1 q0 1 ha rfl hin hdg (fun H1 locs1 hP hD hS => ?_)
  rw [hz] at hP hD
  exact kk H1 locs1 ⟨X.1, hP, hD, hS, X.2.2.2.2⟩
theorem hx_aald (S : CallFix p m c cc nL s args Ts own) (X : hH G A H0 s wd H locs) {a : Nat} (q0 t0 : Nat) {cA : ClassId} {ty : FieldType} (ht : (hTY G)[t0]? = some (cA, ty)) (hty : ty.isReference = true) {n : Nat} {f : Nat → Option Nat} (ha : wd[q0]? = some (a, .inl (cA, n, .inr (.inr (.inr (.inr f)))))) {i : Int32} (hin : vp_in i n) {x : Value} (hx : va_rf (f i.toNatClampNeg) = x) (hdg : decode cc pc = .ok (.aaload, 1))
    (kk : W p l e R s m args below meth c H locs cells slots Q (F0 m (pc + 1) ls (x :: rest))) : W p l e R s m args below meth c H locs cells slots Q (F0 m pc ls (.int i :: .ref a :: rest)) := by
  subst hx
  have hlt : i.toNatClampNeg < n := Nat.not_le.mp fun q => hin (Or.inr q)
  exact W.aald (v := va_rf (f i.toNatClampNeg)) (ty := ty) S.1 S.2.1 (X.2.1 q0 _ ha) ((X.1.2 t0 _ ht).1 n (fun j => va_rf (f j))) hty (fun q => by cases q) (by show ¬ (i < 0 ∨ (arrV _ _ _).slots.size ≤ _); rw [arrV_size]; exact hin) (by show (arrV _ _ _).slots[_]? = _; rw [arrV_read _ _ hlt]) rfl rfl hdg kk
theorem hx_aast (S : CallFix p m c cc nL s args Ts own) (X : hH G A H0 s wd H locs) {a : Nat} (q0 t0 qk ci : Nat) {cA : ClassId} {r : vw_C} {n v : Nat} {vs : List Value} {f : Nat → Option Nat} (ha : wd[q0]? = some (a, .inl (cA, n, .inr (.inr (.inr (.inr f)))))) (ht : (hTY G)[t0]? = some (cA, .object r.1)) (hv : wd[qk]? = some (v, .inr (ci, vs))) (hc : vwCl[ci]? = some r) {i : Int32} (j : Nat) (hj : i.toNatClampNeg = j) (hin : vp_in i n) (hdg : decode cc pc = .ok (.aastore, 1))
    {wd' : va_W} (hw : wd.set q0 (a, .inl (cA, n, .inr (.inr (.inr (.inr (va_up f j (some v))))))) = wd') (kk : ∀ (H1 : Heap) (locs1 : List Loc), hH G A H0 s wd' H1 locs1 → W p l e R s m args below meth c H1 locs1 cells slots Q (F0 m (pc + 1) ls rest)) : W p l e R s m args below meth c H locs cells slots Q (F0 m pc ls (.ref v :: .int i :: .ref a :: rest)) := by
  subst hw
  subst hj
  exact va_astq (D := G.1) (cl := vwCl) (tys := hTY G) S.1 S.2.1 X.1 X.2.1 X.2.2.1 X.2.2.2.1 q0 t0 qk ci ha ht hv hc hin hdg (fun H1 locs1 hP hD hS => kk H1 locs1 ⟨X.1, hP, hD, hS, X.2.2.2.2⟩)
theorem hx_aastN (S : CallFix p m c cc nL s args Ts own) (X : hH G A H0 s wd H locs) {a : Nat} (q0 t0 : Nat) {cA : ClassId} {C : String} {n : Nat} {f : Nat → Option Nat} (ha : wd[q0]? = some (a, .inl (cA, n, .inr (.inr (.inr (.inr f)))))) (ht : (hTY G)[t0]? = some (cA, .object C)) {i : Int32} (j : Nat) (hj : i.toNatClampNeg = j) (hin : vp_in i n) (hdg : decode cc pc = .ok (.aastore, 1))
    {wd' : va_W} (hw : wd.set q0 (a, .inl (cA, n, .inr (.inr (.inr (.inr (va_up f j none)))))) = wd') (kk : ∀ (H1 : Heap) (locs1 : List Loc), hH G A H0 s wd' H1 locs1 → W p l e R s m args below meth c H1 locs1 cells slots Q (F0 m (pc + 1) ls rest)) : W p l e R s m args below meth c H locs cells slots Q (F0 m pc ls (.null :: .int i :: .ref a :: rest)) := by
  subst hw
  subst hj
  exact va_astqN (D := G.1) (cl := vwCl) (tys := hTY G) S.1 S.2.1 X.1 X.2.1 X.2.2.1 X.2.2.2.1 q0 t0 ha ht hin hdg (fun H1 locs1 hP hD hS => kk H1 locs1 ⟨X.1, hP, hD, hS, X.2.2.2.2⟩)
theorem va_RA_one {c1 c2 : ClassId} {ty : FieldType} (h1 : va_RA s c1 ty) (h2 : va_RA s c2 ty) : c1 = c2 := by
  cases ty with
  | object C =>
    obtain ⟨_, _, _, _, _, h3⟩ := h1
    obtain ⟨_, _, _, _, _, h4⟩ := h2
    exact Option.some.inj (h3.symm.trans h4)
  | _ => exact Option.some.inj (Eq.trans (Eq.symm h1) h2)
theorem hTY_one (X : hH G A H0 s wd H locs) (t0 : Nat) {c1 cA : ClassId} {ty : FieldType} (ht : (hTY G)[t0]? = some (cA, ty)) (hK : va_K G.1 vwCl (hTY G ++ [(c1, ty)]) s) : c1 = cA :=
  va_RA_one (hK.2 (hTY G).length (c1, ty) (by simp)).2 (X.1.2 t0 _ ht).2
theorem hx_newa (S : CallFix p m c cc nL s args Ts own) (X : hH G A H0 s wd H locs) {atype : ArrayType} (t0 : Nat) {cA : ClassId} {ty : FieldType} (hty : newarray.typeOf atype = ty) (ht : (hTY G)[t0]? = some (cA, ty)) (harr : Cond.arrayClass ty ∈ Ts) {n : Int32} {N' : Nat} {a0 : vp_A} (ha : ∀ cA : ClassId, vp_cell cA a0 = arrV cA N' (fun _ => defaultValue ty)) (hn : ¬ n < 0) (hN : n.toNatClampNeg = N') (hbytes : N' * componentBytes ty ≤ 536870912) (hcells : cells + 1 ≤ R.cells) (hslots : slots + N' ≤ R.slots) (hdg : decode cc pc = .ok (.newarray atype, 2))
    (kk : ∀ (q : Nat) (H1 : Heap), hH G A H0 s (wd ++ [(q, .inl (cA, a0))]) H1 locs → W p l e R s m args below meth c H1 locs (cells + 1) (slots + N') Q (F0 m (pc + 2) ls (.ref q :: rest))) : W p l e R s m args below meth c H locs cells slots Q (F0 m pc ls (.int n :: rest)) := by
  refine va_newa (D := G.1) (cl := vwCl) (tys := hTY G) S.1 S.2.1 (by rw [hty]; exact S.2.2.2.2 _ harr) hty X.1 X.2.1 X.2.2.1 X.2.2.2.1 X.2.2.2.2.1 ha hn hN hbytes hcells hslots hdg (fun q c1 H1 hK hP hD hS => ?_)
  have h1 := hTY_one X t0 ht hK
  subst h1
  exact kk q H1 ⟨X.1, hP, hD, hS, X.2.2.2.2⟩
theorem hx_newq (S : CallFix p m c cc nL s args Ts own) (X : hH G A H0 s wd H locs) (t0 : Nat) {cA : ClassId} {C : String} {index : Nat} (ht : (hTY G)[t0]? = some (cA, .object C)) (hclink : Cond.classLink own index C ∈ Ts) (hover : C ∈ hNA) {n : Int32} {N' : Nat} (hn : ¬ n < 0) (hN : n.toNatClampNeg = N') (hbytes : N' * 4 ≤ 536870912) (hcells : cells + 1 ≤ R.cells) (hslots : slots + N' ≤ R.slots) (hdg : decode cc pc = .ok (.anewarray index, 3))
    (kk : ∀ (q : Nat) (H1 : Heap), hH G A H0 s (wd ++ [(q, .inl (cA, N', .inr (.inr (.inr (.inr (fun _ => none))))))]) H1 locs → W p l e R s m args below meth c H1 locs (cells + 1) (slots + N') Q (F0 m (pc + 3) ls (.ref q :: rest))) : W p l e R s m args below meth c H locs cells slots Q (F0 m pc ls (.int n :: rest)) := by
  refine va_newq (D := G.1) (cl := vwCl) (tys := hTY G) S.1 S.2.1 S.2.2.2.1 (S.2.2.2.2 _ hclink) (X.2.2.2.2.2.2.2.1 C hover) X.1 X.2.1 X.2.2.1 X.2.2.2.1 X.2.2.2.2.1 hn hN hbytes hcells hslots hdg (fun q c1 H1 hK hP hD hS => ?_)
  have h1 := hTY_one X t0 ht hK
  subst h1
  exact kk q H1 ⟨X.1, hP, hD, hS, X.2.2.2.2⟩
theorem hx_new (S : CallFix p m c cc nL s args Ts own) (X : hH G A H0 s wd H locs) {C : String} {T : u_T} {N ci index : Nat} {ty : Nat → FieldType} (hty : ∀ k, k < N → parseFieldDescriptor (T k).2.2.1 = some (ty k)) (hc : vwCl[ci]? = some (C, T, N)) (hin : ∀ w ∈ u_ws C T N, w ∈ Ts) (hcl : Cond.classLink own index C ∈ Ts) (hinst : Cond.instantiable C N ∈ Ts) (hini : Cond.initialized C ∈ Ts) {fs : List Value} (hfs : ∀ j, j < N → defaultValue (ty j) = vp_V fs j) (hcells : cells + 1 ≤ R.cells) (hslots : slots + N ≤ R.slots) (hdg : decode cc pc = .ok (.new index, 3))
    (kk : ∀ (q : Nat) (H1 : Heap), hH G A H0 s (wd ++ [(q, .inr (ci, fs))]) H1 locs → W p l e R s m args below meth c H1 locs (cells + 1) (slots + N) Q (F0 m (pc + 3) ls (.ref q :: rest))) : W p l e R s m args below meth c H locs cells slots Q (F0 m pc ls rest) :=
  va_new (D := G.1) (cl := vwCl) (tys := hTY G) S.1 S.2.1 S.2.2.2.2 hin ty hty S.2.2.2.1 (S.2.2.2.2 _ hcl) (S.2.2.2.2 _ hinst) (S.2.2.2.2 _ hini) X.1 X.2.1 X.2.2.1 X.2.2.2.1 X.2.2.2.2.1 hc hfs hcells hslots hdg (fun q H1 hP hD hS => kk q H1 ⟨X.1, hP, hD, hS, X.2.2.2.2⟩)
/-- behind a call the whole world comes back -/
theorem hx_back (X : hH G A H0 s wd H locs) : (∀ q : Nat, q < H.size → va_A wd H.size q → A q) ∧ (∀ q, va_A wd H.size q → A q) := by
  have h : ∀ q, va_A wd H.size q → A q := fun q h => by
    rcases h with ⟨k, e, h⟩ | h
    · exact X.2.2.1.2 k _ h
    · exact X.2.2.2.2.1 q (Nat.le_trans X.2.2.2.1.1 h)
  exact ⟨fun q _ => h q, h⟩
theorem hx_weaken {B : Nat → Prop} (h : ∀ q, A1 q → B q) (hD : va_D A1 wd) : va_D B wd := hD.weaken (fun _ q _ hq => h q.1 hq)
abbrev hRecv (s : State) (H : Heap) (b : Nat) (C : String) : Prop := ∃ cell : Cell, H[b]? = some cell ∧ cell.vm.isStatics = false ∧ s.vm.findClass C = some cell.cls
theorem hx_recvL (X : hH G A H0 s wd H locs) {b ci q0 : Nat} {C : String} {T : u_T} {N : Nat} {fs : List Value} (hc : vwCl[ci]? = some (C, T, N)) (he : wd[q0]? = some (b, .inr (ci, fs))) : hRecv s H b C := va_recv X.1 X.2.1 hc he
theorem hx_blind {av : List Value} {sz : Nat} : FrameBlind (hPre G wd av sz) := fun a U g mk q => by
  obtain ⟨q0, q1, qP, qK, qD, qN⟩ := q
  exact ⟨q0, q1, qP, va_K.moved (u := U) (U := U.calling g mk a) (Vm.Alike.refl U.vm) qK, qD, hNw.same (u := U) (U := U.calling g mk a) rfl qN⟩
theorem hx_pre (X : hH G A H0 s wd H locs) {av : List Value} (U : State) (hU : U.heap = H) (hW : s.WarmedH U.vm) : hPre G wd av H.size av.toArray U := ⟨rfl, by rw [hU], by rw [hU]; exact X.2.1, va_K.moved hW.alike X.1, hx_weaken (fun _ _ => trivial) X.2.2.1, X.2.2.2.2.2.warm hW⟩
variable {y : MethodName} {bytes : ByteArray} {maxL index b : Nat} {ret : Option FieldType} {ws ws' : List Cond} {rm : Room} {C : String} {As st0 : List Value}
abbrev hDesc (y : MethodName) (C : String) (n : Nat) : Prop := y.cls = C ∧ y.cls ≠ "java/lang/invoke/MethodHandle" ∧ y.cls ≠ "java/lang/invoke/VarHandle" ∧ (parseMethodDescriptor y.desc).map (fun d => d.parameters.length) = some n
abbrev hFit (R rm : Room) (maxL : Nat) : Prop := rm.frames + 1 ≤ R.frames ∧ 8 + (maxL + 11) + rm.locals ≤ R.locals
theorem hx_Vi {post : Int32 → va_W → Prop} (S : CallFix p m c cc nL s args Ts own) (X : hH G A H0 s wd H locs) (hM : hMi l G y ws rm wd (.ref b :: As) post) (hG : GoodIn Ts (wsV own index C y ws)) (hw : ws = Cond.code y bytes maxL ret :: ws') {n : Nat} (hd : hDesc y C n) (hn : As.length = n) (hR : hFit R rm maxL) (hrc : hRecv s H b C) (hls : ls.size = nL) (hst : st0 = As.reverse ++ .ref b :: rest) (hW : (rest.map fun v => v.category).sum ≤ 8) (hdg : decode cc pc = .ok (.invokevirtual index, 3)) (hf : cells + rm.cells ≤ R.cells ∧ slots + rm.slots ≤ R.slots)
    (kk : ∀ (r : Int32) (wd1 : va_W) (H1 : Heap) (locs1 : List Loc), post r wd1 → hH G A H0 s wd1 H1 locs1 → W p l e R s m args below meth c H1 locs1 (cells + rm.cells) (slots + rm.slots) Q (F0 m (pc + 3) ls (.int r :: rest))) : W p l e R s m args below meth c H locs cells slots Q (F0 m pc ls st0) := by
  subst hst
  refine va_calli (va_runV (rest := rest) S (hM H.size) (cwV n S.2.2.2.2 hG hw rfl rfl hd hR) ⟨hx_blind, hrc, fun U hU hW1 => hx_pre X U hU hW1⟩ rfl hn hls rfl (lv_room hW) hdg hf) X.2.2.2.1 (hx_back X).1 (hx_back X).2 (fun r u t H1 locs1 ht hvm hw hB hz1 hk1 hS => ?_)
  obtain ⟨hP1, hK1, hD1⟩ := hB
  rw [ht] at hP1
  exact kk r u H1 locs1 hw ⟨X.1, hP1, hx_weaken (hx_back X).2 hD1, hS, X.2.2.2.2⟩
theorem hx_Vv {post : va_W → Prop} (S : CallFix p m c cc nL s args Ts own) (X : hH G A H0 s wd H locs) (hM : hMv l G y ws rm wd (.ref b :: As) post) (hG : GoodIn Ts (wsV own index C y ws)) (hw : ws = Cond.code y bytes maxL ret :: ws') {n : Nat} (hd : hDesc y C n) (hn : As.length = n) (hR : hFit R rm maxL) (hrc : hRecv s H b C) (hls : ls.size = nL) (hst : st0 = As.reverse ++ .ref b :: rest) (hW : (rest.map fun v => v.category).sum ≤ 8) (hdg : decode cc pc = .ok (.invokevirtual index, 3)) (hf : cells + rm.cells ≤ R.cells ∧ slots + rm.slots ≤ R.slots)
    (kk : ∀ (wd1 : va_W) (H1 : Heap) (locs1 : List Loc), post wd1 → hH G A H0 s wd1 H1 locs1 → W p l e R s m args below meth c H1 locs1 (cells + rm.cells) (slots + rm.slots) Q (F0 m (pc + 3) ls rest)) : W p l e R s m args below meth c H locs cells slots Q (F0 m pc ls st0) := by
  subst hst
  refine va_callv (va_runV (rest := rest) S (hM H.size) (cwV n S.2.2.2.2 hG hw rfl rfl hd hR) ⟨hx_blind, hrc, fun U hU hW1 => hx_pre X U hU hW1⟩ rfl hn hls rfl (lv_room hW) hdg hf) X.2.2.2.1 (hx_back X).1 (hx_back X).2 (fun u t H1 locs1 ht hvm hw hB hz1 hk1 hS => ?_)
  obtain ⟨hP1, hK1, hD1⟩ := hB
  rw [ht] at hP1
  exact kk u H1 locs1 hw ⟨X.1, hP1, hx_weaken (hx_back X).2 hD1, hS, X.2.2.2.2⟩
theorem hx_Vq {post : Option Nat → va_W → Prop} (S : CallFix p m c cc nL s args Ts own) (X : hH G A H0 s wd H locs) (hM : hMq l G y ws rm wd (.ref b :: As) post) (hG : GoodIn Ts (wsV own index C y ws)) (hw : ws = Cond.code y bytes maxL ret :: ws') {n : Nat} (hd : hDesc y C n) (hn : As.length = n) (hR : hFit R rm maxL) (hrc : hRecv s H b C) (hls : ls.size = nL) (hst : st0 = As.reverse ++ .ref b :: rest) (hW : (rest.map fun v => v.category).sum ≤ 8) (hdg : decode cc pc = .ok (.invokevirtual index, 3)) (hf : cells + rm.cells ≤ R.cells ∧ slots + rm.slots ≤ R.slots)
    (kk : ∀ (r : Option Nat) (wd1 : va_W) (H1 : Heap) (locs1 : List Loc), post r wd1 → hH G A H0 s wd1 H1 locs1 → W p l e R s m args below meth c H1 locs1 (cells + rm.cells) (slots + rm.slots) Q (F0 m (pc + 3) ls (va_rf r :: rest))) : W p l e R s m args below meth c H locs cells slots Q (F0 m pc ls st0) := by
  subst hst
  refine va_callq (va_runV (rest := rest) S (hM H.size) (cwV n S.2.2.2.2 hG hw rfl rfl hd hR) ⟨hx_blind, hrc, fun U hU hW1 => hx_pre X U hU hW1⟩ rfl hn hls rfl (lv_room hW) hdg hf) X.2.2.2.1 (hx_back X).1 (hx_back X).2 (fun r u t H1 locs1 ht hvm hw hB hz1 hk1 hS => ?_)
  obtain ⟨hP1, hK1, hD1⟩ := hB
  rw [ht] at hP1
  exact kk r u H1 locs1 hw ⟨X.1, hP1, hx_weaken (hx_back X).2 hD1, hS, X.2.2.2.2⟩
theorem hx_Si {post : Int32 → va_W → Prop} (S : CallFix p m c cc nL s args Ts own) (X : hH G A H0 s wd H locs) (hM : hMi l G y ws rm wd As post) (hG : GoodIn Ts (va_wsS own index y ws)) (hw : ws = Cond.code y bytes maxL ret :: ws') {n : Nat} (hd : y.cls ≠ "java/lang/invoke/MethodHandle" ∧ y.cls ≠ "java/lang/invoke/VarHandle" ∧ (parseMethodDescriptor y.desc).map (fun d => d.parameters.length) = some n) (hn : As.length = n) (hR : hFit R rm maxL) (hls : ls.size = nL) (hst : st0 = As.reverse ++ rest) (hW : (rest.map fun v => v.category).sum ≤ 8) (hdg : decode cc pc = .ok (.invokestatic index, 3)) (hf : cells + rm.cells ≤ R.cells ∧ slots + rm.slots ≤ R.slots)
    (kk : ∀ (r : Int32) (wd1 : va_W) (H1 : Heap) (locs1 : List Loc), post r wd1 → hH G A H0 s wd1 H1 locs1 → W p l e R s m args below meth c H1 locs1 (cells + rm.cells) (slots + rm.slots) Q (F0 m (pc + 3) ls (.int r :: rest))) : W p l e R s m args below meth c H locs cells slots Q (F0 m pc ls st0) := by
  subst hst
  refine va_calli (va_runS (rest := rest) S (hM H.size) (va_cwS n S.2.2.2.2 hG hw rfl rfl hd hR) ⟨hx_blind, fun U hU hW1 => hx_pre X U hU hW1⟩ rfl hn hls rfl (lv_room hW) hdg hf) X.2.2.2.1 (hx_back X).1 (hx_back X).2 (fun r u t H1 locs1 ht hvm hw hB hz1 hk1 hS => ?_)
  obtain ⟨hP1, hK1, hD1⟩ := hB
  rw [ht] at hP1
  exact kk r u H1 locs1 hw ⟨X.1, hP1, hx_weaken (hx_back X).2 hD1, hS, X.2.2.2.2⟩
theorem hx_Iv {post : va_W → Prop} (S : CallFix p m c cc nL s args Ts own) (X : hH G A H0 s wd H locs) (hM : hMv l G y ws rm wd (.ref b :: As) post) (hG : GoodIn Ts ws) (hw : ws = Cond.code y bytes maxL none :: ws') (hini : Cond.initialized y.cls ∈ Ts) (hl : Cond.methodLink own index y ∈ Ts) (hin : Cond.instanceMethod y ∈ Ts) (hy1 : y.name = "<init>") {n : Nat} (hd : y.cls ≠ "java/lang/invoke/MethodHandle" ∧ y.cls ≠ "java/lang/invoke/VarHandle" ∧ (parseMethodDescriptor y.desc).map (fun d => d.parameters.length) = some n) (hn : As.length = n) (hR : hFit R rm maxL) (hls : ls.size = nL) (hst : st0 = As.reverse ++ .ref b :: rest) (hW : (rest.map fun v => v.category).sum ≤ 8) (hdg : decode cc pc = .ok (.invokespecial index, 3)) (hf : cells + rm.cells ≤ R.cells ∧ slots + rm.slots ≤ R.slots)
    (kk : ∀ (wd1 : va_W) (H1 : Heap) (locs1 : List Loc), post wd1 → hH G A H0 s wd1 H1 locs1 → W p l e R s m args below meth c H1 locs1 (cells + rm.cells) (slots + rm.slots) Q (F0 m (pc + 3) ls rest)) : W p l e R s m args below meth c H locs cells slots Q (F0 m pc ls st0) := by
  subst hst
  refine va_callv (va_runI (rest := rest) S (hM H.size) (cwI n S.2.2.2.2 hG hw rfl rfl (S.2.2.2.2 _ hini) (S.2.2.2.2 _ hl) (S.2.2.2.2 _ hin) hy1 hd hR) ⟨hx_blind, fun U hU hW1 => hx_pre X U hU hW1⟩ rfl hn hls rfl (lv_room hW) hdg hf) X.2.2.2.1 (hx_back X).1 (hx_back X).2 (fun u t H1 locs1 ht hvm hw hB hz1 hk1 hS => ?_)
  obtain ⟨hP1, hK1, hD1⟩ := hB
  rw [ht] at hP1
  exact kk u H1 locs1 hw ⟨X.1, hP1, hx_weaken (hx_back X).2 hD1, hS, X.2.2.2.2⟩
theorem hx_SNi {post : Int32 → va_W → Prop} {host : String} (S : CallFix p m c cc nL s args Ts own) (X : hH G A H0 s wd H locs) (hM : hMi l G y ws rm wd As post) (hl : (own, index, y, host) ∈ hNM) (hG : GoodIn Ts ws) (hstt : Cond.static y ∈ Ts) (hini : Cond.initialized y.cls ∈ Ts) (hw : ws = Cond.code y bytes maxL ret :: ws') {n : Nat} (hd : y.cls ≠ "java/lang/invoke/MethodHandle" ∧ y.cls ≠ "java/lang/invoke/VarHandle" ∧ (parseMethodDescriptor y.desc).map (fun d => d.parameters.length) = some n) (hn : As.length = n) (hR : hFit R rm maxL) (hls : ls.size = nL) (hst : st0 = As.reverse ++ rest) (hW : (rest.map fun v => v.category).sum ≤ 8) (hdg : decode cc pc = .ok (.invokestatic index, 3)) (hf : cells + rm.cells ≤ R.cells ∧ slots + rm.slots ≤ R.slots)
    (kk : ∀ (r : Int32) (wd1 : va_W) (H1 : Heap) (locs1 : List Loc), post r wd1 → hH G A H0 s wd1 H1 locs1 → W p l e R s m args below meth c H1 locs1 (cells + rm.cells) (slots + rm.slots) Q (F0 m (pc + 3) ls (.int r :: rest))) : W p l e R s m args below meth c H locs cells slots Q (F0 m pc ls st0) := by
  subst hst
  refine va_calli (va_runSN (rest := rest) S (hM H.size) ⟨va_cnB n S.2.2.2.2 hG hw rfl rfl (X.2.2.2.2.2.2.1 _ hl) (S.2.2.2.2 _ hini) hd hR, S.2.2.2.2 _ hstt, trivial⟩ ⟨hx_blind, fun U hU hW1 => hx_pre X U hU hW1⟩ rfl hn hls rfl (lv_room hW) hdg hf) X.2.2.2.1 (hx_back X).1 (hx_back X).2 (fun r u t H1 locs1 ht hvm hw hB hz1 hk1 hS => ?_)
  obtain ⟨hP1, hK1, hD1⟩ := hB
  rw [ht] at hP1
  exact kk r u H1 locs1 hw ⟨X.1, hP1, hx_weaken (hx_back X).2 hD1, hS, X.2.2.2.2⟩
theorem hx_INv {post : va_W → Prop} {host : String} (S : CallFix p m c cc nL s args Ts own) (X : hH G A H0 s wd H locs) (hM : hMv l G y ws rm wd (.ref b :: As) post) (hl : (own, index, y, host) ∈ hNM) (hG : GoodIn Ts ws) (hw : ws = Cond.code y bytes maxL none :: ws') (hini : Cond.initialized y.cls ∈ Ts) (hin : Cond.instanceMethod y ∈ Ts) (hy1 : y.name = "<init>") {n : Nat} (hd : y.cls ≠ "java/lang/invoke/MethodHandle" ∧ y.cls ≠ "java/lang/invoke/VarHandle" ∧ (parseMethodDescriptor y.desc).map (fun d => d.parameters.length) = some n) (hn : As.length = n) (hR : hFit R rm maxL) (hls : ls.size = nL) (hst : st0 = As.reverse ++ .ref b :: rest) (hW : (rest.map fun v => v.category).sum ≤ 8) (hdg : decode cc pc = .ok (.invokespecial index, 3)) (hf : cells + rm.cells ≤ R.cells ∧ slots + rm.slots ≤ R.slots)
    (kk : ∀ (wd1 : va_W) (H1 : Heap) (locs1 : List Loc), post wd1 → hH G A H0 s wd1 H1 locs1 → W p l e R s m args below meth c H1 locs1 (cells + rm.cells) (slots + rm.slots) Q (F0 m (pc + 3) ls rest)) : W p l e R s m args below meth c H locs cells slots Q (F0 m pc ls st0) := by
  subst hst
  refine va_callv (va_runIN (rest := rest) S (hM H.size) ⟨va_cnB n S.2.2.2.2 hG hw rfl rfl (X.2.2.2.2.2.2.1 _ hl) (S.2.2.2.2 _ hini) hd hR, hy1, S.2.2.2.2 _ hin⟩ ⟨hx_blind, fun U hU hW1 => hx_pre X U hU hW1⟩ rfl hn hls rfl (lv_room hW) hdg hf) X.2.2.2.1 (hx_back X).1 (hx_back X).2 (fun u t H1 locs1 ht hvm hw hB hz1 hk1 hS => ?_)
  obtain ⟨hP1, hK1, hD1⟩ := hB
  rw [ht] at hP1
  exact kk u H1 locs1 hw ⟨X.1, hP1, hx_weaken (hx_back X).2 hD1, hS, X.2.2.2.2⟩
/-- the ends -/
theorem hx_iret {post : Int32 → va_W → Prop} {wd0 : va_W} {mc ms : Nat} {v : Int32} (S : CallFix p m c cc nL s args Ts own) (X : hH G (va_A wd0 s.heap.size) s.heap s wd H locs) (hr : meth.sig.returnType = some .int) (hlk : meth.locks = false) (h1 : cells ≤ mc) (h2 : slots ≤ ms) (hp : post v wd) (hdg : decode cc pc = .ok (.ireturn, 1)) : W p l e R s m args below meth c H locs cells slots (MQ below (va_Qi post (hB G (va_A wd0 s.heap.size)) (va_A wd0 s.heap.size)) args s mc ms (va_A wd0 s.heap.size)) (F0 m pc ls [.int v]) :=
  W.widen h1 h2 (W.iret S.1 S.2.1 hr (fun t ht hW => ⟨⟨v, wd, rfl, hp, by rw [ht]; exact X.2.1, va_K.moved hW.alike X.1, X.2.2.1⟩, X.2.2.2.1.F ht⟩) X.2.2.2.1.2.2 hdg hlk)
theorem hx_zret {post : Int32 → va_W → Prop} {wd0 : va_W} {mc ms : Nat} {v : Int32} (S : CallFix p m c cc nL s args Ts own) (X : hH G (va_A wd0 s.heap.size) s.heap s wd H locs) (hr : meth.sig.returnType = some .boolean) (hlk : meth.locks = false) (h1 : cells ≤ mc) (h2 : slots ≤ ms) (hn : narrow .boolean (.int v) = .int v) (hp : post v wd) (hdg : decode cc pc = .ok (.ireturn, 1)) : W p l e R s m args below meth c H locs cells slots (MQ below (va_Qi post (hB G (va_A wd0 s.heap.size)) (va_A wd0 s.heap.size)) args s mc ms (va_A wd0 s.heap.size)) (F0 m pc ls [.int v]) :=
  W.widen h1 h2 (W.zret S.1 S.2.1 hr hn (fun t ht hW => ⟨⟨v, wd, rfl, hp, by rw [ht]; exact X.2.1, va_K.moved hW.alike X.1, X.2.2.1⟩, X.2.2.2.1.F ht⟩) X.2.2.2.1.2.2 hdg hlk)
theorem hx_vret {post : va_W → Prop} {wd0 : va_W} {mc ms : Nat} (S : CallFix p m c cc nL s args Ts own) (X : hH G (va_A wd0 s.heap.size) s.heap s wd H locs) (hr : meth.sig.returnType = none) (hlk : meth.locks = false) (h1 : cells ≤ mc) (h2 : slots ≤ ms) (hp : post wd) (hdg : decode cc pc = .ok (.return_, 1)) : W p l e R s m args below meth c H locs cells slots (MQ below (va_Qv post (hB G (va_A wd0 s.heap.size)) (va_A wd0 s.heap.size)) args s mc ms (va_A wd0 s.heap.size)) (F0 m pc ls []) :=
  W.widen h1 h2 (W.vret S.1 S.2.1 hr (fun t ht hW => ⟨⟨wd, rfl, hp, by rw [ht]; exact X.2.1, va_K.moved hW.alike X.1, X.2.2.1⟩, X.2.2.2.1.F ht⟩) X.2.2.2.1.2.2 hdg hlk)
theorem hx_qret {post : Option Nat → va_W → Prop} {wd0 : va_W} {mc ms : Nat} {C : String} (r : Option Nat) {v : Value} (hv : v = va_rf r) (S : CallFix p m c cc nL s args Ts own) (X : hH G (va_A wd0 s.heap.size) s.heap s wd H locs) (hr : meth.sig.returnType = some (.object C)) (hlk : meth.locks = false) (h1 : cells ≤ mc) (h2 : slots ≤ ms) (hp : post r wd) (hdg : decode cc pc = .ok (.areturn, 1)) : W p l e R s m args below meth c H locs cells slots (MQ below (va_Qq post (hB G (va_A wd0 s.heap.size)) (va_A wd0 s.heap.size)) args s mc ms (va_A wd0 s.heap.size)) (F0 m pc ls [v]) := by
  subst hv
  exact W.widen h1 h2 (W.aret S.1 S.2.1 hr (Or.inl ⟨_, rfl⟩) (by cases r with | none => exact Or.inl rfl | some a => exact Or.inr ⟨a, rfl⟩) (fun t ht hW => ⟨⟨r, wd, rfl, hp, by rw [ht]; exact X.2.1, va_K.moved hW.alike X.1, X.2.2.1⟩, X.2.2.2.1.F ht⟩) X.2.2.2.1.2.2 hdg hlk)
end HX
