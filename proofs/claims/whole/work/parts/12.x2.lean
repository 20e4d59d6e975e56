section XP2
variable {p : Program} {l : Launch} {e : Env} {R : Room} {s : State} {m : MethodId} {args : Array Value} {below : List Frame} {meth : Method} {c : Code} {H H0 : Heap} {locs : List Loc} {cells slots : Nat} {Q : State → Prop}
variable {cc : ByteArray} {nL pc : Nat} {ls : Array Slot} {rest : List Value} {Ts : List Cond} {own : String} {A : Nat → Prop} {G : hG} {L : List Nat} {f : Nat → va_E}
theorem xp_copy (S : CallFix p m c cc nL s args Ts own) (X : hH G A H0 s (va_pl L f) H locs) {a0 a index : Nat} {g0 g1 : Nat → Int32} (hm0 : a0 ∈ L) (hf0 : f a0 = hAI G 8 g0) (hm : a ∈ L) (hf : f a = hAI G 8 g1) (hlink : Cond.methodLink own index arraycopyName ∈ Ts) (hnat : Cond.native arraycopyName ∈ Ts) (hstat : Cond.static arraycopyName ∈ Ts) (hini : Cond.initialized "java/lang/System" ∈ Ts) (hls : ls.size = nL)
    (hframes : 1 ≤ R.frames) (hlocals : (rest.map fun v => v.category).sum + (nativeFrameWords "java/lang/System" "arraycopy" 5 + 11) ≤ R.locals) (hdg : decode cc pc = .ok (.invokestatic index, 3))
    (kk : ∀ (H1 : Heap) (locs1 : List Loc), hH G A H0 s (va_pl L (va_up f a (hAI G 8 (va_cpy g0 g1 0 0 8)))) H1 locs1 → W p l e R s m args below meth c H1 locs1 cells slots Q (F0 m (pc + 3) ls rest)) : W p l e R s m args below meth c H locs cells slots Q (F0 m pc ls (.int 8 :: .int 0 :: .ref a :: .int 0 :: .ref a0 :: rest)) := by
  obtain ⟨q0, he0⟩ := pl_at hm0 hf0
  obtain ⟨q1, he1⟩ := pl_at hm hf
  refine va_copyi (D := G.1) (cl := vwCl) (tys := hTY G) S.1 S.2.1 (S.2.2.1.trans hls.symm) S.2.2.2.1 (S.2.2.2.2 _ hlink) (S.2.2.2.2 _ hnat) (S.2.2.2.2 _ hstat) (S.2.2.2.2 _ hini) X.1 X.2.1 X.2.2.1 X.2.2.2.1 q0 q1 0 0 he0 he1 rfl rfl rfl (by decide) (by decide) (by decide) (by decide) (by decide) (fun _ _ => rfl) hframes hlocals hdg (fun H1 locs1 hP hD hS => ?_)
  have e1 : (va_pl L f).set q1 (a, hAI G 8 (va_cpy g0 g1 0 0 8)) = va_pl L (va_up f a (hAI G 8 (va_cpy g0 g1 0 0 8))) := pl_set X hm hf he1
  refine kk H1 locs1 ?_
  rw [← e1]
  exact ⟨X.1, hP, hD, hS, X.2.2.2.2⟩
end XP2
set_option maxRecDepth 100000 in
set_option maxHeartbeats 4000000 in
theorem c_X2_init (l : Launch) (G : hG) (L : List Nat) (f : Nat → va_E) (h0 : Nat) (m0 : h0 ∈ L) (f0 : f h0 = .inr (2, [.null, .int ((0 : Int32))]))  : hMv l G yX2_init wsX2_init ({ frames := 1, cells := 1, slots := 6, locals := 20 } : Room) (va_pl L f) [.ref (h0)] (fun w => ∃ q, q ∉ L ∧ w = va_pl (L ++ [q]) (va_up (va_up f q (hAQ G 6 6 (fun _ => none))) h0 (.inr (2, [.ref q, .int 0])))) := by
  refine hMv.of (cc := cX2_init) (maxL := 1) none RX2 rfl (by decide +kernel) rfl (Nat.le_of_ble_eq_true rfl) ?_
  intro p e s m args below meth c S hr hlk hin X ls hl
  have hx := S.1
  have hb := S.2.1
  have hown := S.2.2.2.1
  have hts := S.2.2.2.2
  have hl : lv_has ls 1 [(0, .ref (h0))] := hl
  have hin2 : ∀ w ∈ wsX20, w ∈ wsX2_init := by decide +kernel
  refine lv_aload_n hx hb dX2_init_0 rfl (lv_at hl 0 rfl) ?_
  refine W.objInit hx hb hown (hts (Cond.methodLink RX2 3 objectInit) (by decide +kernel)) (hts (Cond.instanceMethod objectInit) (by decide +kernel)) (hts (Cond.code objectInit ⟨#[0xb1]⟩ 1 none) (by decide +kernel)) rfl (by rw [S.2.2.1]; exact hl.1) rfl dX2_init_1 (Nat.le_of_ble_eq_true rfl) (Nat.le_of_ble_eq_true rfl) ?_
  refine W.eq (g2 := F0 m 4 ls []) rfl ?_
  refine lv_aload_n hx hb dX2_init_4 rfl (lv_at hl 0 rfl) ?_
  refine lv_bipush (v := 6) hx hb dX2_init_5 (by decide) ?_
  refine xp_newQ S X 6 (C := RX4) rfl (by decide +kernel) (by decide +kernel) (N' := 6) (by decide) (Nat.le_of_ble_eq_true rfl) (Nat.le_of_ble_eq_true rfl) dX2_init_7 (fun q1 H hq1 X => ?_)
  have k2 : (va_up f (q1) (hAQ G 6 6 (fun _ => none))) (h0) = .inr (2, [.null, .int ((0 : Int32))]) := up_n f0 (fun q => hq1 (q ▸ m0))
  have k3 : (va_up f (q1) (hAQ G 6 6 (fun _ => none))) (q1) = hAQ G 6 6 (fun _ => none) := va_up_s _ _ _
  refine xp_putF S X (ci := 2) (fs2 := [.ref (q1), .int ((0 : Int32))]) tyX2_ok nmX2 (List.mem_append_left _ m0) k2 rfl hin2 0 (by decide) (by decide +kernel) rfl hin rfl rfl rfl (Nat.le_of_ble_eq_true rfl) rfl dX2_init_10 (fun H locs X => ?_)
  have k4 : (va_up (va_up f (q1) (hAQ G 6 6 (fun _ => none))) (h0) (.inr (2, [.ref (q1), .int ((0 : Int32))]))) (q1) = hAQ G 6 6 (fun _ => none) := up_k k2 k3 (by simp)
  have k5 : (va_up (va_up f (q1) (hAQ G 6 6 (fun _ => none))) (h0) (.inr (2, [.ref (q1), .int ((0 : Int32))]))) (h0) = .inr (2, [.ref (q1), .int ((0 : Int32))]) := va_up_s _ _ _
  exact hx_vret S X hr hlk (Nat.le_of_ble_eq_true rfl) (Nat.le_of_ble_eq_true rfl) ⟨q1, hq1, rfl⟩ dX2_init_13

set_option maxRecDepth 100000 in
set_option maxHeartbeats 4000000 in
theorem c_X2_clear (l : Launch) (G : hG) (L : List Nat) (f : Nat → va_E) (h0 st : Nat) (n : Int32) (m0 : h0 ∈ L) (f0 : f h0 = .inr (2, [.ref (st), .int (n)]))  : hMv l G yX2_clear wsX2_clear ({ frames := 0, cells := 0, slots := 0, locals := 0 } : Room) (va_pl L f) [.ref (h0)] (fun w => w = va_pl L (va_up f h0 (.inr (2, [.ref st, .int 0])))) := by
  refine hMv.of (cc := cX2_clear) (maxL := 1) none RX2 rfl (by decide +kernel) rfl (Nat.le_of_ble_eq_true rfl) ?_
  intro p e s m args below meth c S hr hlk hin X ls hl
  have hx := S.1
  have hb := S.2.1
  have hown := S.2.2.2.1
  have hts := S.2.2.2.2
  have hl : lv_has ls 1 [(0, .ref (h0))] := hl
  have hin2 : ∀ w ∈ wsX20, w ∈ wsX2_clear := by decide +kernel
  refine lv_aload_n hx hb dX2_clear_0 rfl (lv_at hl 0 rfl) ?_
  refine lv_iconst (v := 0) hx hb dX2_clear_1 (by decide) ?_
  refine xp_put S X (ci := 2) (fs2 := [.ref (st), .int ((0 : Int32))]) tyX2_ok nmX2 m0 f0 rfl hin2 1 (by decide) (by decide +kernel) rfl rfl rfl (Nat.le_of_ble_eq_true rfl) rfl dX2_clear_2 (fun H locs X => ?_)
  have k1 : (va_up f (h0) (.inr (2, [.ref (st), .int ((0 : Int32))]))) (h0) = .inr (2, [.ref (st), .int ((0 : Int32))]) := va_up_s _ _ _
  exact hx_vret S X hr hlk (Nat.le_of_ble_eq_true rfl) (Nat.le_of_ble_eq_true rfl) rfl dX2_clear_5

set_option maxRecDepth 100000 in
set_option maxHeartbeats 4000000 in
theorem c_X2_isFull (l : Launch) (G : hG) (L : List Nat) (f : Nat → va_E) (h0 st n : Nat) (m0 : h0 ∈ L) (f0 : f h0 = .inr (2, [.ref (st), .int (nI (n))])) (hn : n ≤ 6) : hMi l G yX2_isFull wsX2_isFull ({ frames := 0, cells := 0, slots := 0, locals := 0 } : Room) (va_pl L f) [.ref (h0)] (fun r w => isB r (6 ≤ n) ∧ w = va_pl L f) := by
  refine hMi.of (cc := cX2_isFull) (maxL := 1) (some .boolean) RX2 rfl (by decide +kernel) rfl (Nat.le_of_ble_eq_true rfl) ?_
  intro p e s m args below meth c S hr hlk X ls hl
  have hx := S.1
  have hb := S.2.1
  have hown := S.2.2.2.1
  have hts := S.2.2.2.2
  have hl : lv_has ls 1 [(0, .ref (h0))] := hl
  have hin2 : ∀ w ∈ wsX20, w ∈ wsX2_isFull := by decide +kernel
  refine lv_aload_n hx hb dX2_isFull_0 rfl (lv_at hl 0 rfl) ?_
  refine xp_get S X (ci := 2) m0 f0 rfl hin2 1 (by decide) (by decide +kernel) rfl dX2_isFull_1 ?_
  refine lv_bipush (v := 6) hx hb dX2_isFull_4 (by decide) ?_
  refine lv_icmp_lt (tgt := 13) hx hb dX2_isFull_6 (by decide) (fun c6 => ?_) (fun c6 => ?_)
  · skip
    have c6 := (nI_ltI (a := n) (b := 6) (by omega) (by omega)).mp c6
    refine lv_iconst (v := 0) hx hb dX2_isFull_13 (by decide) ?_
    exact hx_zret S X hr hlk (Nat.le_of_ble_eq_true rfl) (Nat.le_of_ble_eq_true rfl) (by decide) ⟨isB_f (by omega) rfl, rfl⟩ dX2_isFull_14
  · skip
    have c6 := (not_congr (nI_ltI (a := n) (b := 6) (by omega) (by omega))).mp c6
    refine lv_iconst (v := 1) hx hb dX2_isFull_9 (by decide) ?_
    refine lv_goto (tgt := 14) hx hb dX2_isFull_10 (by decide) ?_
    exact hx_zret S X hr hlk (Nat.le_of_ble_eq_true rfl) (Nat.le_of_ble_eq_true rfl) (by decide) ⟨isB_t (by omega) rfl, rfl⟩ dX2_isFull_14

set_option maxRecDepth 100000 in
set_option maxHeartbeats 4000000 in
theorem c_X2_append (l : Launch) (G : hG) (L : List Nat) (f : Nat → va_E) (h0 st n sp : Nat) (g : Nat → Option Nat) (u0 u1 u2 : Value) (m0 : h0 ∈ L) (f0 : f h0 = .inr (2, [.ref (st), .int (nI (n))])) (m1 : st ∈ L) (f1 : f st = hAQ G 6 6 (g)) (m2 : sp ∈ L) (f2 : f sp = .inr (4, [u0, u1, u2])) (hn : n ≤ 6) : hMi l G yX2_append wsX2_append ({ frames := 1, cells := 0, slots := 0, locals := 20 } : Room) (va_pl L f) [.ref (h0), .ref (sp)] (fun r w => (n = 6 → r = -2000010 ∧ w = va_pl L f) ∧ (n < 6 → r = nI (n + 1) ∧ w = va_pl L (va_up (va_up f st (hAQ G 6 6 (va_up g n (some sp)))) h0 (.inr (2, [.ref st, .int (nI (n + 1))]))))) := by
  refine hMi.of (cc := cX2_append) (maxL := 2) (some .int) RX2 rfl (by decide +kernel) rfl (Nat.le_of_ble_eq_true rfl) ?_
  intro p e s m args below meth c S hr hlk X ls hl
  have hx := S.1
  have hb := S.2.1
  have hown := S.2.2.2.1
  have hts := S.2.2.2.2
  have hl : lv_has ls 2 [(0, .ref (h0)), (1, .ref (sp))] := hl
  have hin2 : ∀ w ∈ wsX20, w ∈ wsX2_append := by decide +kernel
  refine lv_aload_n hx hb dX2_append_0 rfl (lv_at hl 0 rfl) ?_
  refine hx_Vi (rest := []) S X (c_X2_isFull l G L f (h0) (st) (n) m0 f0 (by omega)) gX2_append_X2_isFull rfl (n := 0) (by decide +kernel) rfl ⟨(Nat.le_of_ble_eq_true rfl), (Nat.le_of_ble_eq_true rfl)⟩ (xp_recv (ci := 2) X rfl m0 f0) hl.1 rfl (Nat.le_of_ble_eq_true rfl) dX2_append_1 ⟨(Nat.le_of_ble_eq_true rfl), (Nat.le_of_ble_eq_true rfl)⟩ (fun r wd1 H locs hp X => ?_)
  obtain ⟨hr1, rfl⟩ := hp
  by_cases h1 : 6 ≤ n
  · skip
    refine hx_ei (hr1.1 h1) ?_
    refine lv_if_eq (tgt := 10) hx hb dX2_append_4 (by decide) (fun c9 => absurd c9 (by decide)) (fun _ => ?_)
    refine lv_ldc (v := -2000010) hx hb hown (hts (Cond.constant RX2 25 (-2000010)) (by decide +kernel)) dX2_append_7 ?_
    exact hx_iret S X hr hlk (Nat.le_of_ble_eq_true rfl) (Nat.le_of_ble_eq_true rfl) ⟨fun _ => ⟨rfl, rfl⟩, fun q => by omega⟩ dX2_append_9
  · skip
    refine hx_ei (hr1.2 h1) ?_
    refine lv_if_eq (tgt := 10) hx hb dX2_append_4 (by decide) (fun _ => ?_) (fun c9 => absurd (by decide) c9)
    refine lv_aload_n hx hb dX2_append_10 rfl (lv_at hl 0 rfl) ?_
    refine xp_get S X (ci := 2) m0 f0 rfl hin2 0 (by decide) (by decide +kernel) rfl dX2_append_11 ?_
    refine lv_aload_n hx hb dX2_append_14 rfl (lv_at hl 0 rfl) ?_
    refine xp_get S X (ci := 2) m0 f0 rfl hin2 1 (by decide) (by decide +kernel) rfl dX2_append_15 ?_
    refine lv_aload_n hx hb dX2_append_18 rfl (lv_at hl 1 rfl) ?_
    refine xp_ast S X 6 (r := (RX4, TX4, 3)) rfl m1 f1 m2 f2 rfl (j := n) (by omega) (by decide) dX2_append_19 (fun H locs X => ?_)
    have k1 : (va_up f (st) (hAQ G 6 6 (va_up (g) (n) (some (sp))))) (h0) = .inr (2, [.ref (st), .int (nI (n))]) := up_k f1 f0 (by simp)
    have k2 : (va_up f (st) (hAQ G 6 6 (va_up (g) (n) (some (sp))))) (sp) = .inr (4, [u0, u1, u2]) := up_k f1 f2 (by simp)
    have k3 : (va_up f (st) (hAQ G 6 6 (va_up (g) (n) (some (sp))))) (st) = hAQ G 6 6 (va_up (g) (n) (some (sp))) := va_up_s _ _ _
    refine lv_aload_n hx hb dX2_append_20 rfl (lv_at hl 0 rfl) ?_
    refine lv_dup hx hb dX2_append_21 rfl ?_
    refine xp_get S X (ci := 2) m0 k1 rfl hin2 1 (by decide) (by decide +kernel) rfl dX2_append_22 ?_
    refine lv_iconst (v := 1) hx hb dX2_append_25 (by decide) ?_
    refine lv_iadd hx hb dX2_append_26 ?_
    refine hx_ei (show _ = nI (n + 1) from nI_add (n) (1)) ?_
    refine xp_put S X (ci := 2) (fs2 := [.ref (st), .int (nI (n + 1))]) tyX2_ok nmX2 m0 k1 rfl hin2 1 (by decide) (by decide +kernel) rfl rfl rfl (Nat.le_of_ble_eq_true rfl) rfl dX2_append_27 (fun H locs X => ?_)
    have k4 : (va_up (va_up f (st) (hAQ G 6 6 (va_up (g) (n) (some (sp))))) (h0) (.inr (2, [.ref (st), .int (nI (n + 1))]))) (sp) = .inr (4, [u0, u1, u2]) := up_k k1 k2 (by simp)
    have k5 : (va_up (va_up f (st) (hAQ G 6 6 (va_up (g) (n) (some (sp))))) (h0) (.inr (2, [.ref (st), .int (nI (n + 1))]))) (st) = hAQ G 6 6 (va_up (g) (n) (some (sp))) := up_k k1 k3 (by simp)
    have k6 : (va_up (va_up f (st) (hAQ G 6 6 (va_up (g) (n) (some (sp))))) (h0) (.inr (2, [.ref (st), .int (nI (n + 1))]))) (h0) = .inr (2, [.ref (st), .int (nI (n + 1))]) := va_up_s _ _ _
    refine lv_aload_n hx hb dX2_append_30 rfl (lv_at hl 0 rfl) ?_
    refine xp_get S X (ci := 2) m0 k6 rfl hin2 1 (by decide) (by decide +kernel) rfl dX2_append_31 ?_
    exact hx_iret S X hr hlk (Nat.le_of_ble_eq_true rfl) (Nat.le_of_ble_eq_true rfl) ⟨fun q => by omega, fun _ => ⟨rfl, rfl⟩⟩ dX2_append_34

set_option maxRecDepth 100000 in
set_option maxHeartbeats 4000000 in
theorem c_X2_applyTo (l : Launch) (G : hG) (L : List Nat) (f : Nat → va_E) (h0 st vr n : Nat) (g : Nat → Option Nat) (sp : Nat → Nat) (K A B row : Nat → Int32) (m0 : h0 ∈ L) (f0 : f h0 = .inr (2, [.ref (st), .int (nI (n))])) (m1 : st ∈ L) (f1 : f st = hAQ G 6 6 (g)) (mv : vr ∈ L) (fv : f vr = hAI G 8 (row)) (hn : n ≤ 6) (hne : st ≠ vr) (hg : ∀ k, k < n → g k = some (sp k)) (hsm : ∀ k, k < n → sp k ∈ L) (hsf : ∀ k, k < n → f (sp k) = .inr (4, [.int (K k), .int (A k), .int (B k)])) (hok : ∀ k, k < n → okSt (K k) (A k) (B k)) : hMi l G yX2_applyTo wsX2_applyTo ({ frames := 3, cells := 0, slots := 0, locals := 65 } : Room) (va_pl L f) [.ref (h0), .ref (vr)] (fun r w => isB r ((apX K A B row n).1 = true) ∧ w = va_pl L (va_up f vr (hAI G 8 (apX K A B row n).2))) := by
  refine hMi.of (cc := cX2_applyTo) (maxL := 3) (some .boolean) RX2 rfl (by decide +kernel) rfl (Nat.le_of_ble_eq_true rfl) ?_
  intro p e s m args below meth c S hr hlk X ls hl
  have hx := S.1
  have hb := S.2.1
  have hown := S.2.2.2.1
  have hts := S.2.2.2.2
  have hl : lv_has ls 3 [(0, .ref (h0)), (1, .ref (vr))] := hl
  have hin2 : ∀ w ∈ wsX20, w ∈ wsX2_applyTo := by decide +kernel
  have hin4 : ∀ w ∈ wsX40, w ∈ wsX2_applyTo := by decide +kernel
  refine lv_iconst (v := 0) hx hb dX2_applyTo_0 (by decide) ?_
  refine lv_istore_n (lv' := [(2, .int ((0 : Int32))), (0, .ref (h0)), (1, .ref (vr))]) hx hb dX2_applyTo_1 rfl hl (by decide) rfl (fun ls hl => ?_)
  have loop : ∀ (n9 i : Nat) , i + n9 = n → (apX K A B row i).1 = true → ∀ (H : Heap) (locs : List Loc) (ls : Array Slot), hH G (va_A (va_pl L f) s.heap.size) s.heap s (va_pl L (va_up f vr (hAI G 8 (apX K A B row i).2))) H locs → lv_has ls 3 [(0, .ref (h0)), (1, .ref (vr)), (2, .int (nI (i)))] → W p l e ({ frames := 3, cells := 0, slots := 0, locals := 65 } : Room) s m args below meth c H locs 0 0 (MQ below (va_Qi (fun r w => isB r ((apX K A B row n).1 = true) ∧ w = va_pl L (va_up f vr (hAI G 8 (apX K A B row n).2))) (hB G (va_A (va_pl L f) s.heap.size)) (va_A (va_pl L f) s.heap.size)) args s 0 0 (va_A (va_pl L f) s.heap.size)) (F0 m 2 ls []) := by
    intro n9
    induction n9 with
    | zero =>
      intro i  hi9 hv H locs ls X hl
      have hin : i = n := by omega
      have ev : (va_up f vr (hAI G 8 (apX K A B row i).2)) vr = hAI G 8 ((apX K A B row i).2) := va_up_s _ _ _
      have e0 : (va_up f vr (hAI G 8 (apX K A B row i).2)) h0 = .inr (2, [.ref (st), .int (nI (n))]) := up_k fv f0 (by simp)
      have e1 : (va_up f vr (hAI G 8 (apX K A B row i).2)) st = hAQ G 6 6 (g) := up_n f1 hne
      refine lv_iload_n hx hb dX2_applyTo_2 rfl (lv_at hl 2 rfl) ?_
      refine lv_aload_n hx hb dX2_applyTo_3 rfl (lv_at hl 0 rfl) ?_
      refine xp_get S X (ci := 2) m0 e0 rfl hin2 1 (by decide) (by decide +kernel) rfl dX2_applyTo_4 ?_
      refine lv_icmp_ge (tgt := 31) hx hb dX2_applyTo_7 (by decide) (fun _ => ?_) (fun c9 => absurd (nI_le (a := n) (b := i) (by omega) (by omega)) c9)
      refine lv_iconst (v := 1) hx hb dX2_applyTo_31 (by decide) ?_
      exact hx_zret S X hr hlk (Nat.le_of_ble_eq_true rfl) (Nat.le_of_ble_eq_true rfl) (by decide) ⟨isB_t (hin ▸ hv) rfl, by rw [hin]⟩ dX2_applyTo_32
    | succ n9 ih =>
      intro i  hi9 hv H locs ls X hl
      have hin : i < n := by omega
      have ev : (va_up f vr (hAI G 8 (apX K A B row i).2)) vr = hAI G 8 ((apX K A B row i).2) := va_up_s _ _ _
      have e0 : (va_up f vr (hAI G 8 (apX K A B row i).2)) h0 = .inr (2, [.ref (st), .int (nI (n))]) := up_k fv f0 (by simp)
      have e1 : (va_up f vr (hAI G 8 (apX K A B row i).2)) st = hAQ G 6 6 (g) := up_n f1 hne
      have e2 : (va_up f vr (hAI G 8 (apX K A B row i).2)) (sp i) = .inr (4, [.int (K i), .int (A i), .int (B i)]) := up_k fv (hsf i hin) (by simp)
      refine lv_iload_n hx hb dX2_applyTo_2 rfl (lv_at hl 2 rfl) ?_
      refine lv_aload_n hx hb dX2_applyTo_3 rfl (lv_at hl 0 rfl) ?_
      refine xp_get S X (ci := 2) m0 e0 rfl hin2 1 (by decide) (by decide +kernel) rfl dX2_applyTo_4 ?_
      refine lv_icmp_ge (tgt := 31) hx hb dX2_applyTo_7 (by decide) (fun c9 => absurd c9 (nI_ge (a := i) (b := n) (by omega) (by omega))) (fun _ => ?_)
      refine lv_aload_n hx hb dX2_applyTo_10 rfl (lv_at hl 0 rfl) ?_
      refine xp_get S X (ci := 2) m0 e0 rfl hin2 0 (by decide) (by decide +kernel) rfl dX2_applyTo_11 ?_
      refine lv_iload_n hx hb dX2_applyTo_14 rfl (lv_at hl 2 rfl) ?_
      refine xp_ald S X 6 rfl rfl m1 e1 (j := i) (by omega) (by decide) (x := .ref (sp i)) (by rw [hg i hin]; rfl) dX2_applyTo_15 ?_
      refine lv_aload_n hx hb dX2_applyTo_16 rfl (lv_at hl 1 rfl) ?_
      refine hx_Vi (rest := []) S X (c_X4_applyTo l G L (va_up f vr (hAI G 8 (apX K A B row i).2)) (sp i) (vr) (K i) (A i) (B i) ((apX K A B row i).2) (hsm i hin) e2 mv ev (hok i hin)) gX2_applyTo_X4_applyTo rfl (n := 1) (by decide +kernel) rfl ⟨(Nat.le_of_ble_eq_true rfl), (Nat.le_of_ble_eq_true rfl)⟩ (xp_recv (ci := 4) X rfl (hsm i hin) e2) hl.1 rfl (Nat.le_of_ble_eq_true rfl) dX2_applyTo_17 ⟨(Nat.le_of_ble_eq_true rfl), (Nat.le_of_ble_eq_true rfl)⟩ (fun r wd1 H locs hp X => ?_)
      obtain ⟨hr17, rfl⟩ := hp
      have k1 : (va_up (va_up f vr (hAI G 8 (apX K A B row i).2)) (vr) (hAI G 8 ((stepX (K i) (A i) (B i) ((apX K A B row i).2)).2))) (h0) = .inr (2, [.ref (st), .int (nI (n))]) := up_k ev e0 (by simp)
      have k2 : (va_up (va_up f vr (hAI G 8 (apX K A B row i).2)) (vr) (hAI G 8 ((stepX (K i) (A i) (B i) ((apX K A B row i).2)).2))) (st) = hAQ G 6 6 (g) := up_k ev e1 (by simp)
      have k3 : (va_up (va_up f vr (hAI G 8 (apX K A B row i).2)) (vr) (hAI G 8 ((stepX (K i) (A i) (B i) ((apX K A B row i).2)).2))) (sp i) = .inr (4, [.int (K i), .int (A i), .int (B i)]) := up_k ev e2 (by simp)
      have k4 : (va_up (va_up f vr (hAI G 8 (apX K A B row i).2)) (vr) (hAI G 8 ((stepX (K i) (A i) (B i) ((apX K A B row i).2)).2))) (vr) = hAI G 8 ((stepX (K i) (A i) (B i) ((apX K A B row i).2)).2) := va_up_s _ _ _
      by_cases h17 : (stepX (K i) (A i) (B i) ((apX K A B row i).2)).1 = true
      · skip
        refine hx_ei (hr17.1 h17) ?_
        refine lv_if_ne (tgt := 25) hx hb dX2_applyTo_20 (by decide) (fun _ => ?_) (fun c9 => absurd c9 (by decide))
        refine lv_iinc (v := nI (i + 1)) (lv' := [(2, .int (nI (i + 1))), (0, .ref (h0)), (1, .ref (vr))]) hx hb dX2_applyTo_25 hl (k := 2) rfl (nI_add (i) 1) (by decide) rfl (fun ls hl => ?_)
        refine lv_goto (tgt := 2) hx hb dX2_applyTo_28 (by decide) ?_
        have hg1 := apX_go (K := K) (A := A) (B := B) (row := row) hv
        exact ih (i + 1) (by omega) (by rw [hg1]; exact h17) _ _ _ (X.to (by rw [up_up, hg1])) (lv_sub hl [1, 2, 0] rfl)
      · skip
        refine hx_ei (hr17.2 h17) ?_
        refine lv_if_ne (tgt := 25) hx hb dX2_applyTo_20 (by decide) (fun c9 => absurd (by decide) c9) (fun _ => ?_)
        refine lv_iconst (v := 0) hx hb dX2_applyTo_23 (by decide) ?_
        have hg1 := apX_go (K := K) (A := A) (B := B) (row := row) hv
        have hst : apX K A B row n = apX K A B row (i + 1) := by rw [show n = (i + 1) + (n - (i + 1)) by omega]; exact apX_stop (by rw [hg1]; exact h17) _
        exact hx_zret S X hr hlk (Nat.le_of_ble_eq_true rfl) (Nat.le_of_ble_eq_true rfl) (by decide) ⟨isB_f (by rw [hst, hg1]; exact h17) rfl, by rw [hst, hg1, up_up]⟩ dX2_applyTo_24
  exact loop n 0 (by omega) rfl _ _ _ (X.to (by rw [show (apX K A B row 0).2 = row from rfl, va_up_id fv])) (lv_sub hl [1, 2, 0] rfl)

set_option maxRecDepth 100000 in
set_option maxHeartbeats 4000000 in
theorem c_X0_countFrames (l : Launch) (G : hG) (L : List Nat) (f : Nat → va_E) (h0 fr n : Nat) (g : Nat → Option Nat) (fa hi : Nat → Nat) (ver pn ty : Nat → Int32) (type lo up : Int32) (m0 : h0 ∈ L) (f0 : f h0 = .inr (0, [.ref (fr), .int (nI (n))])) (m1 : fr ∈ L) (f1 : f fr = hAQ G 5 8 (g)) (hn : n ≤ 8) (hg : ∀ k, k < n → g k = some (fa k)) (hfm : ∀ k, k < n → fa k ∈ L) (hff : ∀ k, k < n → f (fa k) = .inr (3, [.ref (hi k), .int (ver k), .int (pn k)])) (hhm : ∀ k, k < n → hi k ∈ L) (hhf : ∀ k, k < n → ∃ v1 v2 v3 v4 : Value, f (hi k) = .inr (1, [.int (ty k), v1, v2, v3, v4])) : hMi l G yX0_countFrames wsX0_countFrames ({ frames := 0, cells := 0, slots := 0, locals := 0 } : Room) (va_pl L f) [.ref (h0), .int (type), .int (lo), .int (up)] (fun r w => r = nI (cnq (fun k => ty k = type ∧ lo ≤ ver k ∧ ver k ≤ up) n) ∧ w = va_pl L f) := by
  refine hMi.of (cc := cX0_countFrames) (maxL := 7) (some .int) RX0 rfl (by decide +kernel) rfl (Nat.le_of_ble_eq_true rfl) ?_
  intro p e s m args below meth c S hr hlk X ls hl
  have hx := S.1
  have hb := S.2.1
  have hown := S.2.2.2.1
  have hts := S.2.2.2.2
  have hl : lv_has ls 7 [(0, .ref (h0)), (1, .int (type)), (2, .int (lo)), (3, .int (up))] := hl
  have hin0 : ∀ w ∈ wsX00, w ∈ wsX0_countFrames := by decide +kernel
  have hin1 : ∀ w ∈ wsX10, w ∈ wsX0_countFrames := by decide +kernel
  have hin3 : ∀ w ∈ wsX30, w ∈ wsX0_countFrames := by decide +kernel
  refine lv_iconst (v := 0) hx hb dX0_countFrames_0 (by decide) ?_
  refine lv_istore (lv' := [(4, .int ((0 : Int32))), (0, .ref (h0)), (1, .int (type)), (2, .int (lo)), (3, .int (up))]) hx hb dX0_countFrames_1 hl (by decide) rfl (fun ls hl => ?_)
  refine lv_iconst (v := 0) hx hb dX0_countFrames_3 (by decide) ?_
  refine lv_istore (lv' := [(5, .int ((0 : Int32))), (4, .int ((0 : Int32))), (0, .ref (h0)), (1, .int (type)), (2, .int (lo)), (3, .int (up))]) hx hb dX0_countFrames_4 hl (by decide) rfl (fun ls hl => ?_)
  have loop : ∀ (n9 i : Nat) (y : Nat), i + n9 = n → y = cnq (fun k => ty k = type ∧ lo ≤ ver k ∧ ver k ≤ up) i → ∀ (H : Heap) (locs : List Loc) (ls : Array Slot), hH G (va_A (va_pl L f) s.heap.size) s.heap s (va_pl L f) H locs → lv_has ls 7 [(0, .ref (h0)), (1, .int (type)), (2, .int (lo)), (3, .int (up)), (4, .int (nI (y))), (5, .int (nI (i)))] → W p l e ({ frames := 0, cells := 0, slots := 0, locals := 0 } : Room) s m args below meth c H locs 0 0 (MQ below (va_Qi (fun r w => r = nI (cnq (fun k => ty k = type ∧ lo ≤ ver k ∧ ver k ≤ up) n) ∧ w = va_pl L f) (hB G (va_A (va_pl L f) s.heap.size)) (va_A (va_pl L f) s.heap.size)) args s 0 0 (va_A (va_pl L f) s.heap.size)) (F0 m 6 ls []) := by
    intro n9
    induction n9 with
    | zero =>
      intro i y hi9 hv H locs ls X hl
      have hin : i = n := by omega
      refine lv_iload hx hb dX0_countFrames_6 (lv_at hl 5 rfl) ?_
      refine lv_aload_n hx hb dX0_countFrames_8 rfl (lv_at hl 0 rfl) ?_
      refine xp_get S X (ci := 0) m0 f0 rfl hin0 1 (by decide) (by decide +kernel) rfl dX0_countFrames_9 ?_
      refine lv_icmp_ge (tgt := 63) hx hb dX0_countFrames_12 (by decide) (fun _ => ?_) (fun c9 => absurd (nI_le (a := n) (b := i) (by omega) (by omega)) c9)
      refine lv_iload hx hb dX0_countFrames_63 (lv_at hl 4 rfl) ?_
      exact hx_iret S X hr hlk (Nat.le_of_ble_eq_true rfl) (Nat.le_of_ble_eq_true rfl) ⟨by rw [hv, hin], rfl⟩ dX0_countFrames_65
    | succ n9 ih =>
      intro i y hi9 hv H locs ls X hl
      have hin : i < n := by omega
      obtain ⟨w1, w2, w3, w4, hh⟩ := hhf i hin
      refine lv_iload hx hb dX0_countFrames_6 (lv_at hl 5 rfl) ?_
      refine lv_aload_n hx hb dX0_countFrames_8 rfl (lv_at hl 0 rfl) ?_
      refine xp_get S X (ci := 0) m0 f0 rfl hin0 1 (by decide) (by decide +kernel) rfl dX0_countFrames_9 ?_
      refine lv_icmp_ge (tgt := 63) hx hb dX0_countFrames_12 (by decide) (fun c9 => absurd c9 (nI_ge (a := i) (b := n) (by omega) (by omega))) (fun _ => ?_)
      refine lv_aload_n hx hb dX0_countFrames_15 rfl (lv_at hl 0 rfl) ?_
      refine xp_get S X (ci := 0) m0 f0 rfl hin0 0 (by decide) (by decide +kernel) rfl dX0_countFrames_16 ?_
      refine lv_iload hx hb dX0_countFrames_19 (lv_at hl 5 rfl) ?_
      refine xp_ald S X 5 rfl rfl m1 f1 (j := i) (by omega) (by decide) (x := .ref (fa i)) (by rw [hg i hin]; rfl) dX0_countFrames_21 ?_
      refine lv_astore (lv' := [(6, .ref (fa i)), (0, .ref (h0)), (1, .int (type)), (2, .int (lo)), (3, .int (up)), (4, .int (nI (y))), (5, .int (nI (i)))]) hx hb dX0_countFrames_22 hl (by decide) rfl (fun ls hl => ?_)
      refine lv_aload hx hb dX0_countFrames_24 (lv_at hl 0 rfl) ?_
      refine xp_getN (host := RX6) S X (ci := 3) (hfm i hin) (hff i hin) rfl hin3 0 (by decide) (by decide +kernel) rfl dX0_countFrames_26 ?_
      refine xp_getN (host := RX6) S X (ci := 1) (hhm i hin) hh rfl hin1 0 (by decide) (by decide +kernel) rfl dX0_countFrames_29 ?_
      refine lv_iload_n hx hb dX0_countFrames_32 rfl (lv_at hl 2 rfl) ?_
      refine lv_icmp_ne (tgt := 57) hx hb dX0_countFrames_33 (by decide) (fun c33 => ?_) (fun c33 => ?_)
      · skip
        refine lv_iinc (v := nI (i + 1)) (lv' := [(5, .int (nI (i + 1))), (6, .ref (fa i)), (0, .ref (h0)), (1, .int (type)), (2, .int (lo)), (3, .int (up)), (4, .int (nI (y)))]) hx hb dX0_countFrames_57 hl (k := 6) rfl (nI_add (i) 1) (by decide) rfl (fun ls hl => ?_)
        refine lv_goto (tgt := 6) hx hb dX0_countFrames_60 (by decide) ?_
        exact ih (i + 1) (y) (by omega) (by rw [hv, cnq_f (fun q => c33 q.1)]) _ _ _ X (lv_sub hl [2, 3, 4, 5, 6, 0] rfl)
      · skip
        refine lv_aload hx hb dX0_countFrames_36 (lv_at hl 0 rfl) ?_
        refine xp_getN (host := RX6) S X (ci := 3) (hfm i hin) (hff i hin) rfl hin3 1 (by decide) (by decide +kernel) rfl dX0_countFrames_38 ?_
        refine lv_iload_n hx hb dX0_countFrames_41 rfl (lv_at hl 3 rfl) ?_
        refine lv_icmp_lt (tgt := 57) hx hb dX0_countFrames_42 (by decide) (fun c42 => ?_) (fun c42 => ?_)
        · skip
          refine lv_iinc (v := nI (i + 1)) (lv' := [(5, .int (nI (i + 1))), (6, .ref (fa i)), (0, .ref (h0)), (1, .int (type)), (2, .int (lo)), (3, .int (up)), (4, .int (nI (y)))]) hx hb dX0_countFrames_57 hl (k := 6) rfl (nI_add (i) 1) (by decide) rfl (fun ls hl => ?_)
          refine lv_goto (tgt := 6) hx hb dX0_countFrames_60 (by decide) ?_
          exact ih (i + 1) (y) (by omega) (by rw [hv, cnq_f (fun q => absurd c42 (Int32.not_lt.mpr q.2.1))]) _ _ _ X (lv_sub hl [2, 3, 4, 5, 6, 0] rfl)
        · skip
          refine lv_aload hx hb dX0_countFrames_45 (lv_at hl 0 rfl) ?_
          refine xp_getN (host := RX6) S X (ci := 3) (hfm i hin) (hff i hin) rfl hin3 1 (by decide) (by decide +kernel) rfl dX0_countFrames_47 ?_
          refine lv_iload_n hx hb dX0_countFrames_50 rfl (lv_at hl 4 rfl) ?_
          refine lv_icmp_gt (tgt := 57) hx hb dX0_countFrames_51 (by decide) (fun c51 => ?_) (fun c51 => ?_)
          · skip
            refine lv_iinc (v := nI (i + 1)) (lv' := [(5, .int (nI (i + 1))), (6, .ref (fa i)), (0, .ref (h0)), (1, .int (type)), (2, .int (lo)), (3, .int (up)), (4, .int (nI (y)))]) hx hb dX0_countFrames_57 hl (k := 6) rfl (nI_add (i) 1) (by decide) rfl (fun ls hl => ?_)
            refine lv_goto (tgt := 6) hx hb dX0_countFrames_60 (by decide) ?_
            exact ih (i + 1) (y) (by omega) (by rw [hv, cnq_f (fun q => absurd c51 (Int32.not_lt.mpr q.2.2))]) _ _ _ X (lv_sub hl [2, 3, 4, 5, 6, 0] rfl)
          · skip
            refine lv_iinc (v := nI (y + 1)) (lv' := [(4, .int (nI (y + 1))), (6, .ref (fa i)), (0, .ref (h0)), (1, .int (type)), (2, .int (lo)), (3, .int (up)), (5, .int (nI (i)))]) hx hb dX0_countFrames_54 hl (k := 5) rfl (nI_add (y) 1) (by decide) rfl (fun ls hl => ?_)
            refine lv_iinc (v := nI (i + 1)) (lv' := [(5, .int (nI (i + 1))), (4, .int (nI (y + 1))), (6, .ref (fa i)), (0, .ref (h0)), (1, .int (type)), (2, .int (lo)), (3, .int (up))]) hx hb dX0_countFrames_57 hl (k := 6) rfl (nI_add (i) 1) (by decide) rfl (fun ls hl => ?_)
            refine lv_goto (tgt := 6) hx hb dX0_countFrames_60 (by decide) ?_
            exact ih (i + 1) (y + 1) (by omega) (by rw [hv, cnq_t ⟨c33, Int32.not_lt.mp c42, Int32.not_lt.mp c51⟩]) _ _ _ X (lv_sub hl [3, 4, 5, 6, 1, 0] rfl)
  exact loop n 0 0 (by omega) rfl _ _ _ X (lv_sub hl [2, 3, 4, 5, 1, 0] rfl)

set_option maxRecDepth 100000 in
set_option maxHeartbeats 4000000 in
theorem c_X0_smallestPin (l : Launch) (G : hG) (L : List Nat) (f : Nat → va_E) (h0 fr n : Nat) (g : Nat → Option Nat) (fa hi : Nat → Nat) (ver pn : Nat → Int32) (o : Int32) (m0 : h0 ∈ L) (f0 : f h0 = .inr (0, [.ref (fr), .int (nI (n))])) (m1 : fr ∈ L) (f1 : f fr = hAQ G 5 8 (g)) (hn : n ≤ 8) (hg : ∀ k, k < n → g k = some (fa k)) (hfm : ∀ k, k < n → fa k ∈ L) (hff : ∀ k, k < n → f (fa k) = .inr (3, [.ref (hi k), .int (ver k), .int (pn k)])) : hMi l G yX0_smallestPin wsX0_smallestPin ({ frames := 1, cells := 0, slots := 0, locals := 40 } : Room) (va_pl L f) [.ref (h0), .int (o)] (fun r w => r = mnF (fun k => pinB (pn k) o) ver n ∧ w = va_pl L f) := by
  refine hMi.of (cc := cX0_smallestPin) (maxL := 4) (some .int) RX0 rfl (by decide +kernel) rfl (Nat.le_of_ble_eq_true rfl) ?_
  intro p e s m args below meth c S hr hlk X ls hl
  have hx := S.1
  have hb := S.2.1
  have hown := S.2.2.2.1
  have hts := S.2.2.2.2
  have hl : lv_has ls 4 [(0, .ref (h0)), (1, .int (o))] := hl
  have hin0 : ∀ w ∈ wsX00, w ∈ wsX0_smallestPin := by decide +kernel
  have hin3 : ∀ w ∈ wsX30, w ∈ wsX0_smallestPin := by decide +kernel
  refine lv_bipush (v := 8) hx hb dX0_smallestPin_0 (by decide) ?_
  refine lv_istore_n (lv' := [(2, .int ((8 : Int32))), (0, .ref (h0)), (1, .int (o))]) hx hb dX0_smallestPin_2 rfl hl (by decide) rfl (fun ls hl => ?_)
  refine lv_iconst (v := 0) hx hb dX0_smallestPin_3 (by decide) ?_
  refine lv_istore_n (lv' := [(3, .int ((0 : Int32))), (2, .int ((8 : Int32))), (0, .ref (h0)), (1, .int (o))]) hx hb dX0_smallestPin_4 rfl hl (by decide) rfl (fun ls hl => ?_)
  have loop : ∀ (n9 i : Nat) (y : Int32), i + n9 = n → y = mnF (fun k => pinB (pn k) o) ver i → ∀ (H : Heap) (locs : List Loc) (ls : Array Slot), hH G (va_A (va_pl L f) s.heap.size) s.heap s (va_pl L f) H locs → lv_has ls 4 [(0, .ref (h0)), (1, .int (o)), (2, .int (y)), (3, .int (nI (i)))] → W p l e ({ frames := 1, cells := 0, slots := 0, locals := 40 } : Room) s m args below meth c H locs 0 0 (MQ below (va_Qi (fun r w => r = mnF (fun k => pinB (pn k) o) ver n ∧ w = va_pl L f) (hB G (va_A (va_pl L f) s.heap.size)) (va_A (va_pl L f) s.heap.size)) args s 0 0 (va_A (va_pl L f) s.heap.size)) (F0 m 5 ls []) := by
    intro n9
    induction n9 with
    | zero =>
      intro i y hi9 hv H locs ls X hl
      have hin : i = n := by omega
      refine lv_iload_n hx hb dX0_smallestPin_5 rfl (lv_at hl 3 rfl) ?_
      refine lv_aload_n hx hb dX0_smallestPin_6 rfl (lv_at hl 0 rfl) ?_
      refine xp_get S X (ci := 0) m0 f0 rfl hin0 1 (by decide) (by decide +kernel) rfl dX0_smallestPin_7 ?_
      refine lv_icmp_ge (tgt := 46) hx hb dX0_smallestPin_10 (by decide) (fun _ => ?_) (fun c9 => absurd (nI_le (a := n) (b := i) (by omega) (by omega)) c9)
      refine lv_iload_n hx hb dX0_smallestPin_46 rfl (lv_at hl 2 rfl) ?_
      exact hx_iret S X hr hlk (Nat.le_of_ble_eq_true rfl) (Nat.le_of_ble_eq_true rfl) ⟨by rw [hv, hin], rfl⟩ dX0_smallestPin_47
    | succ n9 ih =>
      intro i y hi9 hv H locs ls X hl
      have hin : i < n := by omega
      refine lv_iload_n hx hb dX0_smallestPin_5 rfl (lv_at hl 3 rfl) ?_
      refine lv_aload_n hx hb dX0_smallestPin_6 rfl (lv_at hl 0 rfl) ?_
      refine xp_get S X (ci := 0) m0 f0 rfl hin0 1 (by decide) (by decide +kernel) rfl dX0_smallestPin_7 ?_
      refine lv_icmp_ge (tgt := 46) hx hb dX0_smallestPin_10 (by decide) (fun c9 => absurd c9 (nI_ge (a := i) (b := n) (by omega) (by omega))) (fun _ => ?_)
      refine lv_aload_n hx hb dX0_smallestPin_13 rfl (lv_at hl 0 rfl) ?_
      refine xp_get S X (ci := 0) m0 f0 rfl hin0 0 (by decide) (by decide +kernel) rfl dX0_smallestPin_14 ?_
      refine lv_iload_n hx hb dX0_smallestPin_17 rfl (lv_at hl 3 rfl) ?_
      refine xp_ald S X 5 rfl rfl m1 f1 (j := i) (by omega) (by decide) (x := .ref (fa i)) (by rw [hg i hin]; rfl) dX0_smallestPin_18 ?_
      refine lv_iload_n hx hb dX0_smallestPin_19 rfl (lv_at hl 1 rfl) ?_
      refine hx_Vi (rest := []) S X (c_X3_pins l G L f (fa i) (hi i) (ver i) (pn i) (o) (hfm i hin) (hff i hin)) gX0_smallestPin_X3_pins rfl (n := 1) (by decide +kernel) rfl ⟨(Nat.le_of_ble_eq_true rfl), (Nat.le_of_ble_eq_true rfl)⟩ (xp_recv (ci := 3) X rfl (hfm i hin) (hff i hin)) hl.1 rfl (Nat.le_of_ble_eq_true rfl) dX0_smallestPin_20 ⟨(Nat.le_of_ble_eq_true rfl), (Nat.le_of_ble_eq_true rfl)⟩ (fun r wd1 H locs hp X => ?_)
      obtain ⟨hr20, rfl⟩ := hp
      by_cases h20 : pinB (pn i) (o)
      · skip
        refine hx_ei (hr20.1 h20) ?_
        refine lv_if_eq (tgt := 40) hx hb dX0_smallestPin_23 (by decide) (fun c9 => absurd c9 (by decide)) (fun _ => ?_)
        refine lv_iload_n hx hb dX0_smallestPin_26 rfl (lv_at hl 2 rfl) ?_
        refine lv_aload_n hx hb dX0_smallestPin_27 rfl (lv_at hl 0 rfl) ?_
        refine xp_get S X (ci := 0) m0 f0 rfl hin0 0 (by decide) (by decide +kernel) rfl dX0_smallestPin_28 ?_
        refine lv_iload_n hx hb dX0_smallestPin_31 rfl (lv_at hl 3 rfl) ?_
        refine xp_ald S X 5 rfl rfl m1 f1 (j := i) (by omega) (by decide) (x := .ref (fa i)) (by rw [hg i hin]; rfl) dX0_smallestPin_32 ?_
        refine xp_getN (host := RX6) S X (ci := 3) (hfm i hin) (hff i hin) rfl hin3 1 (by decide) (by decide +kernel) rfl dX0_smallestPin_33 ?_
        refine va_mmin hx hb (by rw [S.2.2.1]; exact hl.1.symm) hown (hts (Cond.methodLink RX0 46 Lib.Math.min.name) (by decide +kernel)) (hts (Cond.static Lib.Math.min.name) (by decide +kernel)) (hts (Cond.initialized "java/lang/Math") (by decide +kernel)) (hts (Cond.code Lib.Math.min.name Lib.Math.min.code 2 (some .int)) (by decide +kernel)) (Nat.le_of_ble_eq_true rfl) (Nat.le_of_ble_eq_true rfl) (Nat.le_of_ble_eq_true rfl) (Nat.le_of_ble_eq_true rfl) dX0_smallestPin_36 ?_
        refine lv_istore_n (lv' := [(2, .int (if (ver i) < (y) then (ver i) else (y))), (0, .ref (h0)), (1, .int (o)), (3, .int (nI (i)))]) hx hb dX0_smallestPin_39 rfl hl (by decide) rfl (fun ls hl => ?_)
        refine lv_iinc (v := nI (i + 1)) (lv' := [(3, .int (nI (i + 1))), (2, .int (if (ver i) < (y) then (ver i) else (y))), (0, .ref (h0)), (1, .int (o))]) hx hb dX0_smallestPin_40 hl (k := 3) rfl (nI_add (i) 1) (by decide) rfl (fun ls hl => ?_)
        refine lv_goto (tgt := 5) hx hb dX0_smallestPin_43 (by decide) ?_
        exact ih (i + 1) (if (ver i) < (y) then (ver i) else (y)) (by omega) (by rw [mnF, wif_t h20, ← hv]) _ _ _ X (lv_sub hl [2, 3, 1, 0] rfl)
      · skip
        refine hx_ei (hr20.2 h20) ?_
        refine lv_if_eq (tgt := 40) hx hb dX0_smallestPin_23 (by decide) (fun _ => ?_) (fun c9 => absurd (by decide) c9)
        refine lv_iinc (v := nI (i + 1)) (lv' := [(3, .int (nI (i + 1))), (0, .ref (h0)), (1, .int (o)), (2, .int (y))]) hx hb dX0_smallestPin_40 hl (k := 3) rfl (nI_add (i) 1) (by decide) rfl (fun ls hl => ?_)
        refine lv_goto (tgt := 5) hx hb dX0_smallestPin_43 (by decide) ?_
        exact ih (i + 1) (y) (by omega) (by rw [mnF, wif_f h20]; exact hv) _ _ _ X (lv_sub hl [1, 2, 3, 0] rfl)
  exact loop n 0 8 (by omega) rfl _ _ _ X (lv_sub hl [2, 3, 1, 0] rfl)
