/-! THE SYSTEM'S HEAP: a pool of cells, by address: what stands at an address of L is f there -/
theorem va_up_s {α : Type} (f : Nat → α) (k : Nat) (v : α) : va_up f k v k = v := by simp [va_up]
theorem va_up_n {α : Type} (f : Nat → α) {k j : Nat} (v : α) (h : j ≠ k) : va_up f k v j = f j := by simp [va_up, h]
/-- another cell stays: it is another kind of cell -/
theorem up_k {f : Nat → va_E} {a b : Nat} {ea eb e : va_E} (ha : f a = ea) (hb : f b = eb) (h : eb ≠ ea) : va_up f a e b = eb := by
  rw [va_up_n f e (fun q => h (by rw [← hb, ← ha, q]))]
  exact hb
theorem up_n {f : Nat → va_E} {a b : Nat} {eb e : va_E} (hb : f b = eb) (h : b ≠ a) : va_up f a e b = eb := by
  rw [va_up_n f e h]
  exact hb
section XP
variable {p : Program} {l : Launch} {e : Env} {R : Room} {s : State} {m : MethodId} {args : Array Value} {below : List Frame} {meth : Method} {c : Code} {H H0 : Heap} {locs : List Loc} {cells slots : Nat} {Q : State → Prop}
variable {cc : ByteArray} {nL pc : Nat} {ls : Array Slot} {rest : List Value} {Ts : List Cond} {own : String} {A : Nat → Prop} {G : hG} {L : List Nat} {f : Nat → va_E}
theorem pl_at {a : Nat} {ea : va_E} (hm : a ∈ L) (hf : f a = ea) : ∃ k : Nat, (va_pl L f)[k]? = some (a, ea) := by
  obtain ⟨k, hk⟩ := va_pl_get (X := []) (f := f) hm
  exact ⟨k, by rw [← hf]; exact hk⟩
theorem pl_set (X : hH G A H0 s (va_pl L f) H locs) {a k : Nat} {ea e2 : va_E} (hm : a ∈ L) (hf : f a = ea) (hk : (va_pl L f)[k]? = some (a, ea)) : (va_pl L f).set k (a, e2) = va_pl L (va_up f a e2) := by
  have h := va_pl_set (X := []) (f := f) (e := e2) X.2.2.1 hm (by rw [hf]; exact hk)
  exact h
theorem pl_new (X : hH G A H0 s (va_pl L f) H locs) {q : Nat} {e2 : va_E} {H1 : Heap} (X1 : hH G A H0 s (va_pl L f ++ [(q, e2)]) H1 locs) : q ∉ L ∧ va_pl L f ++ [(q, e2)] = va_pl (L ++ [q]) (va_up f q e2) := by
  have hq : q ∉ L := va_pl_fresh2 (X := []) X1.2.2.1
  exact ⟨hq, va_pl_push hq⟩
theorem xp_get (S : CallFix p m c cc nL s args Ts own) (X : hH G A H0 s (va_pl L f) H locs) {C : String} {T : u_T} {N ci index a : Nat} {fs : List Value} (hm : a ∈ L) (hf : f a = .inr (ci, fs)) (hc : vwCl[ci]? = some (C, T, N)) (hin : ∀ w ∈ u_ws C T N, w ∈ Ts) (k : Nat) (hk : k < N) (hlink : Cond.fieldLink own index (T k).1 (T k).2.1 (T k).2.2.1 ∈ Ts) {v : Value} (hv : fs[k]? = some v) (hdg : decode cc pc = .ok (.getfield index, 3))
    (kk : W p l e R s m args below meth c H locs cells slots Q (F0 m (pc + 3) ls (v :: rest))) : W p l e R s m args below meth c H locs cells slots Q (F0 m pc ls (.ref a :: rest)) := by
  obtain ⟨q0, he⟩ := pl_at hm hf
  exact hx_getL S X q0 he hc hin k hk hlink hv hdg kk
theorem xp_getN (S : CallFix p m c cc nL s args Ts own) (X : hH G A H0 s (va_pl L f) H locs) {C : String} {T : u_T} {N ci index a : Nat} {host : String} {fs : List Value} (hm : a ∈ L) (hf : f a = .inr (ci, fs)) (hc : vwCl[ci]? = some (C, T, N)) (hin : ∀ w ∈ u_ws C T N, w ∈ Ts) (k : Nat) (hk : k < N) (hlink : (own, index, (T k).1, (T k).2.1, (T k).2.2.1, host) ∈ hNF) {v : Value} (hv : fs[k]? = some v) (hdg : decode cc pc = .ok (.getfield index, 3))
    (kk : W p l e R s m args below meth c H locs cells slots Q (F0 m (pc + 3) ls (v :: rest))) : W p l e R s m args below meth c H locs cells slots Q (F0 m pc ls (.ref a :: rest)) := by
  obtain ⟨q0, he⟩ := pl_at hm hf
  exact hx_getN S X q0 he hc hin k hk hlink hv hdg kk
theorem xp_put (S : CallFix p m c cc nL s args Ts own) (X : hH G A H0 s (va_pl L f) H locs) {C : String} {T : u_T} {N ci index a : Nat} {ty0 : Nat → FieldType} (hty : ∀ k, k < N → parseFieldDescriptor (T k).2.2.1 = some (ty0 k)) (hnm : ∀ a, a < N → ∀ b, b < N → a ≠ b → (T a).2.1 ≠ (T b).2.1) {fs fs2 : List Value} (hm : a ∈ L) (hf : f a = .inr (ci, fs)) (hc : vwCl[ci]? = some (C, T, N)) (hin : ∀ w ∈ u_ws C T N, w ∈ Ts) (k : Nat) (hk : k < N) (hlink : Cond.fieldLink own index (T k).1 (T k).2.1 (T k).2.2.1 ∈ Ts) (hfin : (T k).2.2.2 = false) {v : Value} (hn : narrow (ty0 k) v = v) (hfit : fits (ty0 k) v = true) (hl : k < fs.length) (hs : fs.set k v = fs2) (hdg : decode cc pc = .ok (.putfield index, 3))
    (kk : ∀ (H1 : Heap) (locs1 : List Loc), hH G A H0 s (va_pl L (va_up f a (.inr (ci, fs2)))) H1 locs1 → W p l e R s m args below meth c H1 locs1 cells slots Q (F0 m (pc + 3) ls rest)) : W p l e R s m args below meth c H locs cells slots Q (F0 m pc ls (v :: .ref a :: rest)) := by
  subst hs
  obtain ⟨q0, he⟩ := pl_at hm hf
  exact hx_putL S X hty hnm q0 he hc hin k hk hlink hfin hn hfit hl hdg (pl_set X hm hf he) kk
theorem xp_putF (S : CallFix p m c cc nL s args Ts own) (X : hH G A H0 s (va_pl L f) H locs) {C : String} {T : u_T} {N ci index a : Nat} {ty0 : Nat → FieldType} (hty : ∀ k, k < N → parseFieldDescriptor (T k).2.2.1 = some (ty0 k)) (hnm : ∀ a, a < N → ∀ b, b < N → a ≠ b → (T a).2.1 ≠ (T b).2.1) {fs fs2 : List Value} (hm : a ∈ L) (hf : f a = .inr (ci, fs)) (hc : vwCl[ci]? = some (C, T, N)) (hin : ∀ w ∈ u_ws C T N, w ∈ Ts) (k : Nat) (hk : k < N) (hlink : Cond.fieldLink own index (T k).1 (T k).2.1 (T k).2.2.1 ∈ Ts) (hfin : (T k).2.2.2 = true) (hin2 : meth.name = "<init>") (hcls : (T k).1 = own) {v : Value} (hn : narrow (ty0 k) v = v) (hfit : fits (ty0 k) v = true) (hl : k < fs.length) (hs : fs.set k v = fs2) (hdg : decode cc pc = .ok (.putfield index, 3))
    (kk : ∀ (H1 : Heap) (locs1 : List Loc), hH G A H0 s (va_pl L (va_up f a (.inr (ci, fs2)))) H1 locs1 → W p l e R s m args below meth c H1 locs1 cells slots Q (F0 m (pc + 3) ls rest)) : W p l e R s m args below meth c H locs cells slots Q (F0 m pc ls (v :: .ref a :: rest)) := by
  subst hs
  obtain ⟨q0, he⟩ := pl_at hm hf
  exact hx_putFL S X hty hnm q0 he hc hin k hk hlink hfin hin2 hcls hn hfit hl hdg (pl_set X hm hf he) kk
theorem xp_ild (S : CallFix p m c cc nL s args Ts own) (X : hH G A H0 s (va_pl L f) H locs) {a n : Nat} {g : Nat → Int32} (hm : a ∈ L) (hf : f a = hAI G n g) {j : Nat} (hj : j < n) (hN : n < 2 ^ 31) {x : Int32} (hx : g j = x) (hdg : decode cc pc = .ok (.iaload, 1))
    (kk : W p l e R s m args below meth c H locs cells slots Q (F0 m (pc + 1) ls (.int x :: rest))) : W p l e R s m args below meth c H locs cells slots Q (F0 m pc ls (.int (nI j) :: .ref a :: rest)) := by
  obtain ⟨q0, he⟩ := pl_at hm hf
  exact hx_iald S X q0 he (vp_in_nI hj hN) (by rw [nI_clamp (by omega)]; exact hx) hdg kk
theorem xp_ist (S : CallFix p m c cc nL s args Ts own) (X : hH G A H0 s (va_pl L f) H locs) {a n : Nat} {g : Nat → Int32} (hm : a ∈ L) (hf : f a = hAI G n g) {j : Nat} (hj : j < n) (hN : n < 2 ^ 31) {x : Int32} (hdg : decode cc pc = .ok (.iastore, 1))
    (kk : ∀ (H1 : Heap) (locs1 : List Loc), hH G A H0 s (va_pl L (va_up f a (hAI G n (upd g j x)))) H1 locs1 → W p l e R s m args below meth c H1 locs1 cells slots Q (F0 m (pc + 1) ls rest)) : W p l e R s m args below meth c H locs cells slots Q (F0 m pc ls (.int x :: .int (nI j) :: .ref a :: rest)) := by
  obtain ⟨q0, he⟩ := pl_at hm hf
  exact hx_iast S X q0 he j (nI_clamp (by omega)) (vp_in_nI hj hN) hdg (pl_set X hm hf he) kk
theorem xp_ald (S : CallFix p m c cc nL s args Ts own) (X : hH G A H0 s (va_pl L f) H locs) {a n : Nat} (t0 : Nat) {ty : FieldType} (ht : (hTY G)[t0]? = some (G.2 t0, ty)) (hty : ty.isReference = true) {g : Nat → Option Nat} (hm : a ∈ L) (hf : f a = hAQ G t0 n g) {j : Nat} (hj : j < n) (hN : n < 2 ^ 31) {x : Value} (hx : va_rf (g j) = x) (hdg : decode cc pc = .ok (.aaload, 1))
    (kk : W p l e R s m args below meth c H locs cells slots Q (F0 m (pc + 1) ls (x :: rest))) : W p l e R s m args below meth c H locs cells slots Q (F0 m pc ls (.int (nI j) :: .ref a :: rest)) := by
  obtain ⟨q0, he⟩ := pl_at hm hf
  exact hx_aald S X q0 t0 ht hty he (vp_in_nI hj hN) (by rw [nI_clamp (by omega)]; exact hx) hdg kk
theorem xp_ast (S : CallFix p m c cc nL s args Ts own) (X : hH G A H0 s (va_pl L f) H locs) {a n v ci : Nat} (t0 : Nat) {r : vw_C} (ht : (hTY G)[t0]? = some (G.2 t0, .object r.1)) {g : Nat → Option Nat} (hm : a ∈ L) (hf : f a = hAQ G t0 n g) {vs : List Value} (hvm : v ∈ L) (hvf : f v = .inr (ci, vs)) (hc : vwCl[ci]? = some r) {j : Nat} (hj : j < n) (hN : n < 2 ^ 31) (hdg : decode cc pc = .ok (.aastore, 1))
    (kk : ∀ (H1 : Heap) (locs1 : List Loc), hH G A H0 s (va_pl L (va_up f a (hAQ G t0 n (va_up g j (some v))))) H1 locs1 → W p l e R s m args below meth c H1 locs1 cells slots Q (F0 m (pc + 1) ls rest)) : W p l e R s m args below meth c H locs cells slots Q (F0 m pc ls (.ref v :: .int (nI j) :: .ref a :: rest)) := by
  obtain ⟨q0, he⟩ := pl_at hm hf
  obtain ⟨qk, hv⟩ := pl_at hvm hvf
  exact hx_aast S X q0 t0 qk ci he ht hv hc j (nI_clamp (by omega)) (vp_in_nI hj hN) hdg (pl_set X hm hf he) kk
theorem xp_astN (S : CallFix p m c cc nL s args Ts own) (X : hH G A H0 s (va_pl L f) H locs) {a n : Nat} (t0 : Nat) {C : String} (ht : (hTY G)[t0]? = some (G.2 t0, .object C)) {g : Nat → Option Nat} (hm : a ∈ L) (hf : f a = hAQ G t0 n g) {j : Nat} (hj : j < n) (hN : n < 2 ^ 31) (hdg : decode cc pc = .ok (.aastore, 1))
    (kk : ∀ (H1 : Heap) (locs1 : List Loc), hH G A H0 s (va_pl L (va_up f a (hAQ G t0 n (va_up g j none)))) H1 locs1 → W p l e R s m args below meth c H1 locs1 cells slots Q (F0 m (pc + 1) ls rest)) : W p l e R s m args below meth c H locs cells slots Q (F0 m pc ls (.null :: .int (nI j) :: .ref a :: rest)) := by
  obtain ⟨q0, he⟩ := pl_at hm hf
  exact hx_aastN S X q0 t0 he ht j (nI_clamp (by omega)) (vp_in_nI hj hN) hdg (pl_set X hm hf he) kk
theorem xp_new (S : CallFix p m c cc nL s args Ts own) (X : hH G A H0 s (va_pl L f) H locs) {C : String} {T : u_T} {N ci index : Nat} {ty : Nat → FieldType} (hty : ∀ k, k < N → parseFieldDescriptor (T k).2.2.1 = some (ty k)) (hc : vwCl[ci]? = some (C, T, N)) (hin : ∀ w ∈ u_ws C T N, w ∈ Ts) (hcl : Cond.classLink own index C ∈ Ts) (hinst : Cond.instantiable C N ∈ Ts) (hini : Cond.initialized C ∈ Ts) {fs : List Value} (hfs : ∀ j, j < N → defaultValue (ty j) = vp_V fs j) (hcells : cells + 1 ≤ R.cells) (hslots : slots + N ≤ R.slots) (hdg : decode cc pc = .ok (.new index, 3))
    (kk : ∀ (q : Nat) (H1 : Heap), q ∉ L → hH G A H0 s (va_pl (L ++ [q]) (va_up f q (.inr (ci, fs)))) H1 locs → W p l e R s m args below meth c H1 locs (cells + 1) (slots + N) Q (F0 m (pc + 3) ls (.ref q :: rest))) : W p l e R s m args below meth c H locs cells slots Q (F0 m pc ls rest) :=
  hx_new S X hty hc hin hcl hinst hini hfs hcells hslots hdg (fun q H1 X1 => kk q H1 (pl_new X X1).1 (X1.to (pl_new X X1).2))
theorem xp_newI (S : CallFix p m c cc nL s args Ts own) (X : hH G A H0 s (va_pl L f) H locs) (harr : Cond.arrayClass .int ∈ Ts) {N' : Nat} (hN2 : N' < 2 ^ 20) (hcells : cells + 1 ≤ R.cells) (hslots : slots + N' ≤ R.slots) (hdg : decode cc pc = .ok (.newarray .int, 2))
    (kk : ∀ (q : Nat) (H1 : Heap), q ∉ L → hH G A H0 s (va_pl (L ++ [q]) (va_up f q (hAI G N' (fun _ => 0)))) H1 locs → W p l e R s m args below meth c H1 locs (cells + 1) (slots + N') Q (F0 m (pc + 2) ls (.ref q :: rest))) : W p l e R s m args below meth c H locs cells slots Q (F0 m pc ls (.int (nI N') :: rest)) :=
  hx_newa S X (t0 := 0) (cA := G.2 0) (ty := .int) (a0 := (N', .inl (fun _ => 0))) rfl rfl harr (fun _ => rfl) (nI_pos (by omega)) (nI_clamp (by omega)) (by show N' * 4 ≤ _; omega) hcells hslots hdg (fun q H1 X1 => kk q H1 (pl_new X X1).1 (X1.to (pl_new X X1).2))
theorem xp_newQ (S : CallFix p m c cc nL s args Ts own) (X : hH G A H0 s (va_pl L f) H locs) (t0 : Nat) {C : String} {index : Nat} (ht : (hTY G)[t0]? = some (G.2 t0, .object C)) (hclink : Cond.classLink own index C ∈ Ts) (hover : C ∈ hNA) {N' : Nat} (hN2 : N' < 2 ^ 20) (hcells : cells + 1 ≤ R.cells) (hslots : slots + N' ≤ R.slots) (hdg : decode cc pc = .ok (.anewarray index, 3))
    (kk : ∀ (q : Nat) (H1 : Heap), q ∉ L → hH G A H0 s (va_pl (L ++ [q]) (va_up f q (hAQ G t0 N' (fun _ => none)))) H1 locs → W p l e R s m args below meth c H1 locs (cells + 1) (slots + N') Q (F0 m (pc + 3) ls (.ref q :: rest))) : W p l e R s m args below meth c H locs cells slots Q (F0 m pc ls (.int (nI N') :: rest)) :=
  hx_newq S X t0 ht hclink hover (nI_pos (by omega)) (nI_clamp (by omega)) (by omega) hcells hslots hdg (fun q H1 X1 => kk q H1 (pl_new X X1).1 (X1.to (pl_new X X1).2))
theorem xp_recv (X : hH G A H0 s (va_pl L f) H locs) {b ci : Nat} {C : String} {T : u_T} {N : Nat} {fs : List Value} (hc : vwCl[ci]? = some (C, T, N)) (hm : b ∈ L) (hf : f b = .inr (ci, fs)) : hRecv s H b C := by
  obtain ⟨q0, he⟩ := pl_at hm hf
  exact hx_recvL X hc he
end XP
