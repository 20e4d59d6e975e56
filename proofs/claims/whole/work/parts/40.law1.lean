/-! THE LAW: the reference's cells and the system's pool side by side -/
theorem hJoin {A0 : Nat → Prop} {D : va_G} {cl : List vw_C} {wa wb w1 : va_W} {H H1 : Heap} (hP : va_P D cl (wa ++ wb) H) (hD : va_D A0 (wa ++ wb)) (hk : ∀ q : Nat, q < H.size → ¬ va_A wb H.size q → H1[q]? = H[q]?) (hF : ∀ q, va_A wb H.size q → A0 q) (hP1 : va_P D cl w1 H1) (hD1 : va_D (va_A wb H.size) w1) : va_P D cl (wa ++ w1) H1 ∧ va_D A0 (wa ++ w1) := by
  have left : ∀ (k : Nat) (q : Nat × va_E), wa[k]? = some q → (wa ++ wb)[k]? = some q := fun k q hq => by
    rw [List.getElem?_append_left (List.getElem?_eq_some_iff.mp hq).1]; exact hq
  have apart : ∀ (k : Nat) (q : Nat × va_E), wa[k]? = some q → q.1 < H.size ∧ ¬ va_A wb H.size q.1 := by
    intro k q hq
    have h2 := left k q hq
    have hl := (hP k q h2).lt
    refine ⟨hl, fun h => ?_⟩
    rcases h with ⟨k2, e, h⟩ | h
    · have h3 : (wa ++ wb)[wa.length + k2]? = some (q.1, e) := by
        rw [List.getElem?_append_right (by omega), show wa.length + k2 - wa.length = k2 by omega]; exact h
      have hij := hD.1 _ _ q (q.1, e) h2 h3 rfl
      have := (List.getElem?_eq_some_iff.mp hq).1
      omega
    · omega
  have hDr : va_D A0 wa := ⟨fun i j p q hi hj e => hD.1 i j p q (left i p hi) (left j q hj) e, fun k q h => hD.2 k q (left k q h)⟩
  refine ⟨va_P.app (fun k q hq => ?_) hP1, va_D.app hDr (hD1.weaken (fun k q _ h => hF q.1 h)) (fun i j x y hx hy hxy => ?_)⟩
  · obtain ⟨g1, g2⟩ := apart k q hq
    exact (hP k q (left k q hq)).kept (hk q.1 g1 g2)
  · exact (apart i x hx).2 (by rw [hxy]; exact hD1.2 j y hy)
section LAWR
variable {p : Program} {l : Launch} {e : Env} {R : Room} {s : State} {m : MethodId} {args : Array Value} {below : List Frame} {meth : Method} {c : Code} {H H0 : Heap} {locs : List Loc} {cells slots : Nat} {Q : State → Prop}
variable {cc : ByteArray} {nL pc : Nat} {ls : Array Slot} {rest : List Value} {Ts : List Cond} {own : String} {A : Nat → Prop} {wa wb : va_W} {G : hG}
theorem hH.right (X : hH G A H0 s (wa ++ wb) H locs) : hH G A H0 s wb H locs := by
  have rt : ∀ (k : Nat) (q : Nat × va_E), wb[k]? = some q → (wa ++ wb)[wa.length + k]? = some q := fun k q hq => by
    rw [List.getElem?_append_right (by omega), show wa.length + k - wa.length = k by omega]; exact hq
  exact ⟨X.1, fun k q h => X.2.1 _ q (rt k q h), ⟨fun i j p q hi hj e => by have := X.2.2.1.1 _ _ p q (rt i p hi) (rt j q hj) e; omega, fun k q h => X.2.2.1.2 _ q (rt k q h)⟩, X.2.2.2⟩
theorem hH.swap (X : hH G A H0 s (wa ++ wb) H locs) : hH G A H0 s (wb ++ wa) H locs := ⟨X.1, va_P.swap (a := []) X.2.1, va_D.swap (a := []) X.2.2.1, X.2.2.2⟩
theorem hx_VPi {post : Int32 → va_W → Prop} {y : MethodName} {ws ws' : List Cond} {rm : Room} {b index : Nat} {As st0 : List Value} {bytes : ByteArray} {maxL : Nat} {ret : Option FieldType} {C : String} (S : CallFix p m c cc nL s args Ts own) (X : hH G A H0 s (wa ++ wb) H locs) (hM : hMi l G y ws rm wb (.ref b :: As) post) (hG : GoodIn Ts (wsV own index C y ws)) (hw : ws = Cond.code y bytes maxL ret :: ws') {n : Nat} (hd : hDesc y C n) (hn : As.length = n) (hR : hFit R rm maxL) (hrc : hRecv s H b C) (hls : ls.size = nL) (hst : st0 = As.reverse ++ .ref b :: rest) (hW : (rest.map fun v => v.category).sum ≤ 8) (hdg : decode cc pc = .ok (.invokevirtual index, 3)) (hf : cells + rm.cells ≤ R.cells ∧ slots + rm.slots ≤ R.slots)
    (kk : ∀ (r : Int32) (wd1 : va_W) (H1 : Heap) (locs1 : List Loc), post r wd1 → hH G A H0 s (wa ++ wd1) H1 locs1 → W p l e R s m args below meth c H1 locs1 (cells + rm.cells) (slots + rm.slots) Q (F0 m (pc + 3) ls (.int r :: rest))) : W p l e R s m args below meth c H locs cells slots Q (F0 m pc ls st0) := by
  subst hst
  have Xr := X.right
  refine va_calli (va_runV (rest := rest) S (hM H.size) (cwV n S.2.2.2.2 hG hw rfl rfl hd hR) ⟨hx_blind, hrc, fun U hU hW1 => hx_pre Xr U hU hW1⟩ rfl hn hls rfl (lv_room hW) hdg hf) X.2.2.2.1 (hx_back Xr).1 (hx_back Xr).2 (fun r u t H1 locs1 ht hvm hw hB hz1 hk1 hS => ?_)
  obtain ⟨hP1, hK1, hD1⟩ := hB
  rw [ht] at hP1
  obtain ⟨hP, hD⟩ := hJoin X.2.1 X.2.2.1 hk1 (hx_back Xr).2 hP1 hD1
  exact kk r u H1 locs1 hw ⟨X.1, hP, hD, hS, X.2.2.2.2⟩
theorem hx_VQi {post : Int32 → va_W → Prop} {y : MethodName} {ws ws' : List Cond} {rm : Room} {b index : Nat} {As st0 : List Value} {bytes : ByteArray} {maxL : Nat} {ret : Option FieldType} {C : String} (S : CallFix p m c cc nL s args Ts own) (X : hH G A H0 s (wa ++ wb) H locs) (hM : hMi l G y ws rm wa (.ref b :: As) post) (hG : GoodIn Ts (wsV own index C y ws)) (hw : ws = Cond.code y bytes maxL ret :: ws') {n : Nat} (hd : hDesc y C n) (hn : As.length = n) (hR : hFit R rm maxL) (hrc : hRecv s H b C) (hls : ls.size = nL) (hst : st0 = As.reverse ++ .ref b :: rest) (hW : (rest.map fun v => v.category).sum ≤ 8) (hdg : decode cc pc = .ok (.invokevirtual index, 3)) (hf : cells + rm.cells ≤ R.cells ∧ slots + rm.slots ≤ R.slots)
    (kk : ∀ (r : Int32) (wd1 : va_W) (H1 : Heap) (locs1 : List Loc), post r wd1 → hH G A H0 s (wd1 ++ wb) H1 locs1 → W p l e R s m args below meth c H1 locs1 (cells + rm.cells) (slots + rm.slots) Q (F0 m (pc + 3) ls (.int r :: rest))) : W p l e R s m args below meth c H locs cells slots Q (F0 m pc ls st0) :=
  hx_VPi S X.swap hM hG hw hd hn hR hrc hls hst hW hdg hf (fun r wd1 H1 locs1 hp X1 => kk r wd1 H1 locs1 hp X1.swap)
theorem hx_IQv {post : va_W → Prop} {y : MethodName} {ws ws' : List Cond} {rm : Room} {b index : Nat} {As st0 : List Value} {bytes : ByteArray} {maxL : Nat} (S : CallFix p m c cc nL s args Ts own) (X : hH G A H0 s (wa ++ wb) H locs) (hM : hMv l G y ws rm wb (.ref b :: As) post) (hG : GoodIn Ts ws) (hw : ws = Cond.code y bytes maxL none :: ws') (hini : Cond.initialized y.cls ∈ Ts) (hl : Cond.methodLink own index y ∈ Ts) (hin : Cond.instanceMethod y ∈ Ts) (hy1 : y.name = "<init>") {n : Nat} (hd : y.cls ≠ "java/lang/invoke/MethodHandle" ∧ y.cls ≠ "java/lang/invoke/VarHandle" ∧ (parseMethodDescriptor y.desc).map (fun d => d.parameters.length) = some n) (hn : As.length = n) (hR : hFit R rm maxL) (hls : ls.size = nL) (hst : st0 = As.reverse ++ .ref b :: rest) (hW : (rest.map fun v => v.category).sum ≤ 8) (hdg : decode cc pc = .ok (.invokespecial index, 3)) (hf : cells + rm.cells ≤ R.cells ∧ slots + rm.slots ≤ R.slots)
    (kk : ∀ (wd1 : va_W) (H1 : Heap) (locs1 : List Loc), post wd1 → hH G A H0 s (wa ++ wd1) H1 locs1 → W p l e R s m args below meth c H1 locs1 (cells + rm.cells) (slots + rm.slots) Q (F0 m (pc + 3) ls rest)) : W p l e R s m args below meth c H locs cells slots Q (F0 m pc ls st0) := by
  subst hst
  have Xr := X.right
  refine va_callv (va_runI (rest := rest) S (hM H.size) (cwI n S.2.2.2.2 hG hw rfl rfl (S.2.2.2.2 _ hini) (S.2.2.2.2 _ hl) (S.2.2.2.2 _ hin) hy1 hd hR) ⟨hx_blind, fun U hU hW1 => hx_pre Xr U hU hW1⟩ rfl hn hls rfl (lv_room hW) hdg hf) X.2.2.2.1 (hx_back Xr).1 (hx_back Xr).2 (fun u t H1 locs1 ht hvm hw hB hz1 hk1 hS => ?_)
  obtain ⟨hP1, hK1, hD1⟩ := hB
  rw [ht] at hP1
  obtain ⟨hP, hD⟩ := hJoin X.2.1 X.2.2.1 hk1 (hx_back Xr).2 hP1 hD1
  exact kk u H1 locs1 hw ⟨X.1, hP, hD, hS, X.2.2.2.2⟩
end LAWR
/-- a number's last five bits -/
theorem and31 (x : Int32) : ∃ k : Nat, k < 32 ∧ x &&& 31 = nI k := by
  refine ⟨(x &&& 31).toBitVec.toNat, ?_, ?_⟩
  · rw [Int32.toBitVec_and, BitVec.toNat_and]
    exact Nat.lt_of_le_of_lt Nat.and_le_right (by decide)
  · apply Int32.toBitVec_inj.mp
    show _ = BitVec.ofNat 32 _
    simp
theorem head_gt {i L : Nat} (hi : i ≤ 10000) (hL : L ≤ 2560) (h : ¬ Int32.ofNat L - 5 < nI i) : i + 5 ≤ L := by
  rw [i_lt] at h
  have e1 : (nI i).toInt = i := nI_toInt (by omega)
  have e2 : (Int32.ofNat L).toInt = L := nI_toInt (n := L) (by omega)
  have e3 : (Int32.ofNat L - 5).toInt = (L : Int) - 5 := by
    rw [Int32.toInt_sub, e2, show (5 : Int32).toInt = 5 by decide]
    exact Int.bmod_eq_of_le (by omega) (by omega)
  omega
