section XP3
variable {p : Program} {l : Launch} {e : Env} {R : Room} {s : State} {m : MethodId} {args : Array Value} {below : List Frame} {meth : Method} {c : Code} {H H0 : Heap} {locs : List Loc} {cells slots : Nat} {Q : State → Prop}
variable {cc : ByteArray} {nL pc : Nat} {ls : Array Slot} {rest : List Value} {Ts : List Cond} {own : String} {A : Nat → Prop} {G : hG} {L : List Nat} {f : Nat → va_E}
theorem xp_mna (S : CallFix p m c cc nL s args Ts own) (X : hH G A H0 s (va_pl L f) H locs) {index : Nat} (hclink : Cond.classLink own index "[[I" ∈ Ts) (harr : Cond.arrayClass .int ∈ Ts) (hcells : cells + (1 + 8) ≤ R.cells) (hslots : slots + (8 + 8 * 8) ≤ R.slots) (hdg : decode cc pc = .ok (.multianewarray index 2, 4))
    (kk : ∀ (q : Nat) (r : Nat → Nat) (H1 : Heap), (∀ i j : Nat, i < 8 → j < 8 → r i = r j → i = j) → (∀ i : Nat, i < 8 → r i ∉ L) → q ∉ L ++ (List.range 8).map r → hH G A H0 s (va_pl ((L ++ (List.range 8).map r) ++ [q]) (va_up (vr_up f ((List.range 8).map r) (hAI G 8 (fun _ => 0))) q (hAQ G 8 8 (fun i => if i < 8 then some (r i) else none)))) H1 locs →
      W p l e R s m args below meth c H1 locs (cells + 1 + 8) (slots + 8 + 8 * 8) Q (F0 m (pc + 4) ls (.ref q :: rest))) : W p l e R s m args below meth c H locs cells slots Q (F0 m pc ls (.int 8 :: .int 8 :: rest)) := by
  have hcy : s.vm.findClass (FieldType.array .int).toString = some (G.2 0) := (X.1.2 0 _ rfl).2
  refine va_mna (X := []) (D := G.1) (cl := vwCl) (tys := hTY G) (ty := .int) (cy := G.2 0) (N' := 8) (K' := 8) (z := (8, .inl (fun _ => 0))) S.1 S.2.1 S.2.2.2.1 (S.2.2.2.2 _ hclink) X.2.2.2.2.2.2.2.2 (S.2.2.2.2 _ harr) hcy X.1 X.2.1 X.2.2.1 X.2.2.2.1 X.2.2.2.2.1 (by decide) (by decide) (by decide) (by decide) (by decide) (by decide) (by decide) (by decide) (by decide) hcells hslots (fun _ => rfl) hdg (fun q r cA H1 hinj hfr hK hP hD hS => ?_)
  have h1 : cA = G.2 8 := hTY_one X 8 rfl hK
  subst h1
  have hP2 := va_P.swap (a := []) hP
  have hD2 := va_D.swap (a := []) hD
  have X2 : hH G A H0 s (va_pl (L ++ (List.range 8).map r) (vr_up f ((List.range 8).map r) (hAI G 8 (fun _ => 0))) ++ [(q, hAQ G 8 8 (fun i => if i < 8 then some (r i) else none))]) H1 locs := ⟨X.1, hP2, hD2, hS, X.2.2.2.2⟩
  have hq : q ∉ L ++ (List.range 8).map r := va_pl_fresh2 (X := []) hD2
  exact kk q r H1 hinj hfr hq (X2.to (va_pl_push hq))
end XP3
/-- the heap with eight rows at the places ro -/
def hpR (G : hG) (f : Nat → va_E) (ro : Nat → Nat) (rows : Nat → Nat → Int32) : Nat → (Nat → va_E)
  | 0 => f
  | n + 1 => va_up (hpR G f ro rows n) (ro n) (hAI G 8 (rows n))
theorem hp_other {G : hG} {f : Nat → va_E} {ro : Nat → Nat} {rows : Nat → Nat → Int32} {b : Nat} (n : Nat) (h : ∀ v, v < n → b ≠ ro v) : hpR G f ro rows n b = f b := by
  induction n with
  | zero => rfl
  | succ n ih => rw [hpR, va_up_n _ _ (h n (by omega)), ih (fun v hv => h v (by omega))]
theorem hp_row {G : hG} {f : Nat → va_E} {ro : Nat → Nat} {rows : Nat → Nat → Int32} (n : Nat) (hi : ∀ i j, i < n → j < n → ro i = ro j → i = j) {v : Nat} (hv : v < n) : hpR G f ro rows n (ro v) = hAI G 8 (rows v) := by
  induction n with
  | zero => omega
  | succ n ih =>
    by_cases h : v = n
    · rw [hpR, h, va_up_s]
    · rw [hpR, va_up_n _ _ (fun q => h (hi v n (by omega) (by omega) q))]
      exact ih (fun i j a b => hi i j (by omega) (by omega)) (by omega)
theorem hp_id {G : hG} {f : Nat → va_E} {ro : Nat → Nat} {rows : Nat → Nat → Int32} (n : Nat) (h : ∀ v, v < n → f (ro v) = hAI G 8 (rows v)) : hpR G f ro rows n = f := by
  induction n with
  | zero => rfl
  | succ n ih => rw [hpR, ih (fun v hv => h v (by omega)), va_up_id (h n (by omega))]
theorem hp_upd {G : hG} {f : Nat → va_E} {ro : Nat → Nat} {rows : Nat → Nat → Int32} (n : Nat) (hi : ∀ i j, i < n → j < n → ro i = ro j → i = j) {v : Nat} (hv : v < n) (r : Nat → Int32) : va_up (hpR G f ro rows n) (ro v) (hAI G 8 r) = hpR G f ro (va_up rows v r) n := by
  funext a
  by_cases h : ∃ u, u < n ∧ a = ro u
  · obtain ⟨u, hu, rfl⟩ := h
    rw [hp_row n hi hu]
    by_cases e : u = v
    · rw [e, va_up_s, va_up_s]
    · rw [va_up_n _ _ (fun q => e (hi u v hu hv q)), hp_row n hi hu, va_up_n _ _ e]
  · have h1 : ∀ u, u < n → a ≠ ro u := fun u hu q => h ⟨u, hu, q⟩
    rw [va_up_n _ _ (h1 v hv), hp_other n h1, hp_other n h1]
theorem hp_k {G : hG} {f : Nat → va_E} {ro : Nat → Nat} {rows rv : Nat → Nat → Int32} {b : Nat} {eb : va_E} (hr : ∀ v, v < 8 → f (ro v) = hAI G 8 (rv v)) (hb : f b = eb) (hne : ∀ g, eb ≠ hAI G 8 g) : hpR G f ro rows 8 b = eb := by
  rw [hp_other 8 (fun v hv q => hne (rv v) (by rw [← hb, q, hr v hv]))]
  exact hb
/-- the conversion of an object's rows, version by version -/
noncomputable def cxR (K A B : Nat → Nat → Int32) (ln : Nat → Nat) (rv : Nat → Nat → Int32) (vr : Nat) : Nat → Bool × (Nat → Nat → Int32)
  | 0 => (true, rv)
  | i + 1 => if (cxR K A B ln rv vr i).1 = true then
      ((apX (K (vr + 1 + i)) (A (vr + 1 + i)) (B (vr + 1 + i)) (va_cpy ((cxR K A B ln rv vr i).2 (vr + 1 + i - 1)) ((cxR K A B ln rv vr i).2 (vr + 1 + i)) 0 0 8) (ln (vr + 1 + i))).1,
        va_up (cxR K A B ln rv vr i).2 (vr + 1 + i) (apX (K (vr + 1 + i)) (A (vr + 1 + i)) (B (vr + 1 + i)) (va_cpy ((cxR K A B ln rv vr i).2 (vr + 1 + i - 1)) ((cxR K A B ln rv vr i).2 (vr + 1 + i)) 0 0 8) (ln (vr + 1 + i))).2)
    else cxR K A B ln rv vr i
theorem cxR_go {K A B : Nat → Nat → Int32} {ln : Nat → Nat} {rv : Nat → Nat → Int32} {vr i : Nat} (h : (cxR K A B ln rv vr i).1 = true) : cxR K A B ln rv vr (i + 1) = ((apX (K (vr + 1 + i)) (A (vr + 1 + i)) (B (vr + 1 + i)) (va_cpy ((cxR K A B ln rv vr i).2 (vr + 1 + i - 1)) ((cxR K A B ln rv vr i).2 (vr + 1 + i)) 0 0 8) (ln (vr + 1 + i))).1,
        va_up (cxR K A B ln rv vr i).2 (vr + 1 + i) (apX (K (vr + 1 + i)) (A (vr + 1 + i)) (B (vr + 1 + i)) (va_cpy ((cxR K A B ln rv vr i).2 (vr + 1 + i - 1)) ((cxR K A B ln rv vr i).2 (vr + 1 + i)) 0 0 8) (ln (vr + 1 + i))).2) := by rw [cxR, if_pos h]
theorem cxR_stop {K A B : Nat → Nat → Int32} {ln : Nat → Nat} {rv : Nat → Nat → Int32} {vr i : Nat} (h : ¬ (cxR K A B ln rv vr i).1 = true) (d : Nat) : cxR K A B ln rv vr (i + d) = cxR K A B ln rv vr i := by
  induction d with
  | zero => rfl
  | succ d ih => rw [← Nat.add_assoc, cxR, ih, if_neg h]
theorem rng_ne {L : List Nat} {rr : Nat → Nat} {b : Nat} (hm : b ∈ L) (h : ∀ i, i < 8 → rr i ∉ L) : b ∉ (List.range 8).map rr := by
  intro q
  obtain ⟨i, hi, rfl⟩ := List.mem_map.mp q
  exact h i (List.mem_range.mp hi) hm
set_option maxRecDepth 100000 in
set_option maxHeartbeats 4000000 in
theorem c_X5_valueOf (l : Launch) (G : hG) (L : List Nat) (f : Nat → va_E) (h0 hi rw row vr k : Nat) (first : Int32) (gr : Nat → Option Nat) (gv : Nat → Int32) (m0 : h0 ∈ L) (f0 : f h0 = .inr (5, [.ref (hi), .int (first), .int (nI (vr)), .ref (rw)])) (m1 : rw ∈ L) (f1 : f rw = hAQ G 8 8 (gr)) (m2 : row ∈ L) (f2 : f row = hAI G 8 (gv)) (hg : gr vr = some row) (hv8 : vr < 8) (hk : k < 8) : hMi l G yX5_valueOf wsX5_valueOf ({ frames := 0, cells := 0, slots := 0, locals := 0 } : Room) (va_pl L f) [.ref (h0), .int (nI (k))] (fun r w => r = gv k ∧ w = va_pl L f) := by
  refine hMi.of (cc := cX5_valueOf) (maxL := 2) (some .int) RX5 rfl (by decide +kernel) rfl (Nat.le_of_ble_eq_true rfl) ?_
  intro p e s m args below meth c S hr hlk X ls hl
  have hx := S.1
  have hb := S.2.1
  have hown := S.2.2.2.1
  have hts := S.2.2.2.2
  have hl : lv_has ls 2 [(0, .ref (h0)), (1, .int (nI (k)))] := hl
  have hin5 : ∀ w ∈ wsX50, w ∈ wsX5_valueOf := by decide +kernel
  refine lv_aload_n hx hb dX5_valueOf_0 rfl (lv_at hl 0 rfl) ?_
  refine xp_get S X (ci := 5) m0 f0 rfl hin5 3 (by decide) (by decide +kernel) rfl dX5_valueOf_1 ?_
  refine lv_aload_n hx hb dX5_valueOf_4 rfl (lv_at hl 0 rfl) ?_
  refine xp_get S X (ci := 5) m0 f0 rfl hin5 2 (by decide) (by decide +kernel) rfl dX5_valueOf_5 ?_
  refine xp_ald S X 8 rfl rfl m1 f1 (j := vr) (by omega) (by decide) (x := .ref (row)) (by rw [hg]; rfl) dX5_valueOf_8 ?_
  refine lv_iload_n hx hb dX5_valueOf_9 rfl (lv_at hl 1 rfl) ?_
  refine xp_ild S X m2 f2 (j := k) (by omega) (by decide) (x := gv (k)) (rfl) dX5_valueOf_10 ?_
  exact hx_iret S X hr hlk (Nat.le_of_ble_eq_true rfl) (Nat.le_of_ble_eq_true rfl) ⟨rfl, rfl⟩ dX5_valueOf_11

set_option maxRecDepth 100000 in
set_option maxHeartbeats 4000000 in
theorem c_X5_putValue (l : Launch) (G : hG) (L : List Nat) (f : Nat → va_E) (h0 hi rw row vr k : Nat) (first x : Int32) (gr : Nat → Option Nat) (gv : Nat → Int32) (m0 : h0 ∈ L) (f0 : f h0 = .inr (5, [.ref (hi), .int (first), .int (nI (vr)), .ref (rw)])) (m1 : rw ∈ L) (f1 : f rw = hAQ G 8 8 (gr)) (m2 : row ∈ L) (f2 : f row = hAI G 8 (gv)) (hg : gr vr = some row) (hv8 : vr < 8) (hk : k < 8) : hMv l G yX5_putValue wsX5_putValue ({ frames := 0, cells := 0, slots := 0, locals := 0 } : Room) (va_pl L f) [.ref (h0), .int (nI (k)), .int (x)] (fun w => w = va_pl L (va_up f row (hAI G 8 (upd gv k x)))) := by
  refine hMv.of (cc := cX5_putValue) (maxL := 3) none RX5 rfl (by decide +kernel) rfl (Nat.le_of_ble_eq_true rfl) ?_
  intro p e s m args below meth c S hr hlk hin X ls hl
  have hx := S.1
  have hb := S.2.1
  have hown := S.2.2.2.1
  have hts := S.2.2.2.2
  have hl : lv_has ls 3 [(0, .ref (h0)), (1, .int (nI (k))), (2, .int (x))] := hl
  have hin5 : ∀ w ∈ wsX50, w ∈ wsX5_putValue := by decide +kernel
  refine lv_aload_n hx hb dX5_putValue_0 rfl (lv_at hl 0 rfl) ?_
  refine xp_get S X (ci := 5) m0 f0 rfl hin5 3 (by decide) (by decide +kernel) rfl dX5_putValue_1 ?_
  refine lv_aload_n hx hb dX5_putValue_4 rfl (lv_at hl 0 rfl) ?_
  refine xp_get S X (ci := 5) m0 f0 rfl hin5 2 (by decide) (by decide +kernel) rfl dX5_putValue_5 ?_
  refine xp_ald S X 8 rfl rfl m1 f1 (j := vr) (by omega) (by decide) (x := .ref (row)) (by rw [hg]; rfl) dX5_putValue_8 ?_
  refine lv_iload_n hx hb dX5_putValue_9 rfl (lv_at hl 1 rfl) ?_
  refine lv_iload_n hx hb dX5_putValue_10 rfl (lv_at hl 2 rfl) ?_
  refine xp_ist S X m2 f2 (j := k) (by omega) (by decide) (x := x) dX5_putValue_11 (fun H locs X => ?_)
  have k1 : (va_up f (row) (hAI G 8 (upd (gv) (k) (x)))) (h0) = .inr (5, [.ref (hi), .int (first), .int (nI (vr)), .ref (rw)]) := up_k f2 f0 (by simp)
  have k2 : (va_up f (row) (hAI G 8 (upd (gv) (k) (x)))) (rw) = hAQ G 8 8 (gr) := up_k f2 f1 (by simp)
  have k3 : (va_up f (row) (hAI G 8 (upd (gv) (k) (x)))) (row) = hAI G 8 (upd (gv) (k) (x)) := va_up_s _ _ _
  exact hx_vret S X hr hlk (Nat.le_of_ble_eq_true rfl) (Nat.le_of_ble_eq_true rfl) rfl dX5_putValue_12

set_option maxRecDepth 100000 in
set_option maxHeartbeats 4000000 in
theorem c_X5_revert (l : Launch) (G : hG) (L : List Nat) (f : Nat → va_E) (h0 hi rw : Nat) (first ver : Int32) (m0 : h0 ∈ L) (f0 : f h0 = .inr (5, [.ref (hi), .int (first), .int (ver), .ref (rw)]))  : hMv l G yX5_revert wsX5_revert ({ frames := 0, cells := 0, slots := 0, locals := 0 } : Room) (va_pl L f) [.ref (h0)] (fun w => (first < ver → w = va_pl L (va_up f h0 (.inr (5, [.ref hi, .int first, .int (ver - 1), .ref rw])))) ∧ (¬ first < ver → w = va_pl L f)) := by
  refine hMv.of (cc := cX5_revert) (maxL := 1) none RX5 rfl (by decide +kernel) rfl (Nat.le_of_ble_eq_true rfl) ?_
  intro p e s m args below meth c S hr hlk hin X ls hl
  have hx := S.1
  have hb := S.2.1
  have hown := S.2.2.2.1
  have hts := S.2.2.2.2
  have hl : lv_has ls 1 [(0, .ref (h0))] := hl
  have hin5 : ∀ w ∈ wsX50, w ∈ wsX5_revert := by decide +kernel
  refine lv_aload_n hx hb dX5_revert_0 rfl (lv_at hl 0 rfl) ?_
  refine xp_get S X (ci := 5) m0 f0 rfl hin5 2 (by decide) (by decide +kernel) rfl dX5_revert_1 ?_
  refine lv_aload_n hx hb dX5_revert_4 rfl (lv_at hl 0 rfl) ?_
  refine xp_get S X (ci := 5) m0 f0 rfl hin5 1 (by decide) (by decide +kernel) rfl dX5_revert_5 ?_
  refine lv_icmp_le (tgt := 21) hx hb dX5_revert_8 (by decide) (fun c8 => ?_) (fun c8 => ?_)
  · skip
    exact hx_vret S X hr hlk (Nat.le_of_ble_eq_true rfl) (Nat.le_of_ble_eq_true rfl) ⟨fun q => absurd q (Int32.not_lt.mpr c8), fun _ => rfl⟩ dX5_revert_21
  · skip
    refine lv_aload_n hx hb dX5_revert_11 rfl (lv_at hl 0 rfl) ?_
    refine lv_dup hx hb dX5_revert_12 rfl ?_
    refine xp_get S X (ci := 5) m0 f0 rfl hin5 2 (by decide) (by decide +kernel) rfl dX5_revert_13 ?_
    refine lv_iconst (v := 1) hx hb dX5_revert_16 (by decide) ?_
    refine lv_isub hx hb dX5_revert_17 ?_
    refine xp_put S X (ci := 5) (fs2 := [.ref (hi), .int (first), .int ((ver) - ((1 : Int32))), .ref (rw)]) tyX5_ok nmX5 m0 f0 rfl hin5 2 (by decide) (by decide +kernel) rfl rfl rfl (Nat.le_of_ble_eq_true rfl) rfl dX5_revert_18 (fun H locs X => ?_)
    have k1 : (va_up f (h0) (.inr (5, [.ref (hi), .int (first), .int ((ver) - ((1 : Int32))), .ref (rw)]))) (h0) = .inr (5, [.ref (hi), .int (first), .int ((ver) - ((1 : Int32))), .ref (rw)]) := va_up_s _ _ _
    exact hx_vret S X hr hlk (Nat.le_of_ble_eq_true rfl) (Nat.le_of_ble_eq_true rfl) ⟨fun _ => rfl, fun q => absurd (Int32.not_le.mp c8) q⟩ dX5_revert_21

set_option maxRecDepth 100000 in
set_option maxHeartbeats 4000000 in
theorem c_X5_convertTo (l : Launch) (G : hG) (L : List Nat) (f : Nat → va_E) (h0 hi rw cva vr tg : Nat) (first : Int32) (gr gc : Nat → Option Nat) (ro cv sa : Nat → Nat) (rv : Nat → Nat → Int32) (ln : Nat → Nat) (gs : Nat → Nat → Option Nat) (sp : Nat → Nat → Nat) (K A B : Nat → Nat → Int32) (v0 v1 v3 v4 : Value) (m0 : h0 ∈ L) (f0 : f h0 = .inr (5, [.ref (hi), .int (first), .int (nI (vr)), .ref (rw)])) (m1 : rw ∈ L) (f1 : f rw = hAQ G 8 8 (gr)) (m2 : hi ∈ L) (f2 : f hi = .inr (1, [v0, v1, .ref (cva), v3, v4])) (m3 : cva ∈ L) (f3 : f cva = hAQ G 4 8 (gc)) (hv8 : vr ≤ tg) (ht8 : tg < 8) (hgr : ∀ v, v < 8 → gr v = some (ro v)) (hrm : ∀ v, v < 8 → ro v ∈ L) (hrf : ∀ v, v < 8 → f (ro v) = hAI G 8 (rv v)) (hri : ∀ i j, i < 8 → j < 8 → ro i = ro j → i = j) (hgc : ∀ v, v < 8 → gc v = some (cv v)) (hcm : ∀ v, v < 8 → cv v ∈ L) (hcf : ∀ v, v < 8 → f (cv v) = .inr (2, [.ref (sa v), .int (nI (ln v))])) (hl6 : ∀ v, v < 8 → ln v ≤ 6) (ham : ∀ v, v < 8 → sa v ∈ L) (haf : ∀ v, v < 8 → f (sa v) = hAQ G 6 6 (gs v)) (hgs : ∀ v, v < 8 → ∀ k, k < ln v → gs v k = some (sp v k)) (hsm : ∀ v, v < 8 → ∀ k, k < ln v → sp v k ∈ L) (hsf : ∀ v, v < 8 → ∀ k, k < ln v → f (sp v k) = .inr (4, [.int (K v k), .int (A v k), .int (B v k)])) (hok : ∀ v, v < 8 → ∀ k, k < ln v → okSt (K v k) (A v k) (B v k)) : hMi l G yX5_convertTo wsX5_convertTo ({ frames := 4, cells := 0, slots := 0, locals := 87 } : Room) (va_pl L f) [.ref (h0), .int (nI (tg))] (fun r w => isB r ((cxR K A B ln rv vr (tg - vr)).1 = true) ∧ ((cxR K A B ln rv vr (tg - vr)).1 = true → w = va_pl L (va_up (hpR G f ro (cxR K A B ln rv vr (tg - vr)).2 8) h0 (.inr (5, [.ref hi, .int first, .int (nI tg), .ref rw])))) ∧ (¬ (cxR K A B ln rv vr (tg - vr)).1 = true → w = va_pl L (hpR G f ro (cxR K A B ln rv vr (tg - vr)).2 8))) := by
  refine hMi.of (cc := cX5_convertTo) (maxL := 3) (some .boolean) RX5 rfl (by decide +kernel) rfl (Nat.le_of_ble_eq_true rfl) ?_
  intro p e s m args below meth c S hr hlk X ls hl
  have hx := S.1
  have hb := S.2.1
  have hown := S.2.2.2.1
  have hts := S.2.2.2.2
  have hl : lv_has ls 3 [(0, .ref (h0)), (1, .int (nI (tg)))] := hl
  have hin1 : ∀ w ∈ wsX10, w ∈ wsX5_convertTo := by decide +kernel
  have hin2 : ∀ w ∈ wsX20, w ∈ wsX5_convertTo := by decide +kernel
  have hin4 : ∀ w ∈ wsX40, w ∈ wsX5_convertTo := by decide +kernel
  have hin5 : ∀ w ∈ wsX50, w ∈ wsX5_convertTo := by decide +kernel
  refine lv_iload_n hx hb dX5_convertTo_0 rfl (lv_at hl 1 rfl) ?_
  refine lv_aload_n hx hb dX5_convertTo_1 rfl (lv_at hl 0 rfl) ?_
  refine xp_get S X (ci := 5) m0 f0 rfl hin5 2 (by decide) (by decide +kernel) rfl dX5_convertTo_2 ?_
  refine lv_icmp_lt (tgt := 14) hx hb dX5_convertTo_5 (by decide) (fun c9 => absurd c9 (nI_nlt (a := tg) (b := vr) (by omega) (by omega))) (fun _ => ?_)
  refine lv_iload_n hx hb dX5_convertTo_8 rfl (lv_at hl 1 rfl) ?_
  refine lv_bipush (v := 8) hx hb dX5_convertTo_9 (by decide) ?_
  refine lv_icmp_lt (tgt := 16) hx hb dX5_convertTo_11 (by decide) (fun _ => ?_) (fun c9 => absurd (nI_lt (a := tg) (b := 8) (by omega) (by omega)) c9)
  refine lv_aload_n hx hb dX5_convertTo_16 rfl (lv_at hl 0 rfl) ?_
  refine xp_get S X (ci := 5) m0 f0 rfl hin5 2 (by decide) (by decide +kernel) rfl dX5_convertTo_17 ?_
  refine lv_iconst (v := 1) hx hb dX5_convertTo_20 (by decide) ?_
  refine lv_iadd hx hb dX5_convertTo_21 ?_
  refine hx_ei (show _ = nI (vr + 1) from nI_add (vr) (1)) ?_
  refine lv_istore_n (lv' := [(2, .int (nI (vr + 1))), (0, .ref (h0)), (1, .int (nI (tg)))]) hx hb dX5_convertTo_22 rfl hl (by decide) rfl (fun ls hl => ?_)
  have loop : ∀ (n9 i : Nat) , i + n9 = tg - vr → (cxR K A B ln rv vr i).1 = true → ∀ (H : Heap) (locs : List Loc) (ls : Array Slot), hH G (va_A (va_pl L f) s.heap.size) s.heap s (va_pl L (hpR G f ro (cxR K A B ln rv vr i).2 8)) H locs → lv_has ls 3 [(0, .ref (h0)), (1, .int (nI (tg))), (2, .int (nI (vr + 1 + i)))] → W p l e ({ frames := 4, cells := 0, slots := 0, locals := 87 } : Room) s m args below meth c H locs 0 0 (MQ below (va_Qi (fun r w => isB r ((cxR K A B ln rv vr (tg - vr)).1 = true) ∧ ((cxR K A B ln rv vr (tg - vr)).1 = true → w = va_pl L (va_up (hpR G f ro (cxR K A B ln rv vr (tg - vr)).2 8) h0 (.inr (5, [.ref hi, .int first, .int (nI tg), .ref rw])))) ∧ (¬ (cxR K A B ln rv vr (tg - vr)).1 = true → w = va_pl L (hpR G f ro (cxR K A B ln rv vr (tg - vr)).2 8))) (hB G (va_A (va_pl L f) s.heap.size)) (va_A (va_pl L f) s.heap.size)) args s 0 0 (va_A (va_pl L f) s.heap.size)) (F0 m 23 ls []) := by
    intro n9
    induction n9 with
    | zero =>
      intro i  hi9 hv H locs ls X hl
      have hin : i = tg - vr := by omega
      have e0 : (hpR G f ro (cxR K A B ln rv vr i).2 8) h0 = .inr (5, [.ref (hi), .int (first), .int (nI (vr)), .ref (rw)]) := hp_k hrf f0 (by intro g; simp)
      refine lv_iload_n hx hb dX5_convertTo_23 rfl (lv_at hl 2 rfl) ?_
      refine lv_iload_n hx hb dX5_convertTo_24 rfl (lv_at hl 1 rfl) ?_
      refine lv_icmp_gt (tgt := 78) hx hb dX5_convertTo_25 (by decide) (fun _ => ?_) (fun c9 => absurd (nI_lt (a := tg) (b := vr + 1 + i) (by omega) (by omega)) c9)
      refine lv_aload_n hx hb dX5_convertTo_78 rfl (lv_at hl 0 rfl) ?_
      refine lv_iload_n hx hb dX5_convertTo_79 rfl (lv_at hl 1 rfl) ?_
      refine xp_put S X (ci := 5) (fs2 := [.ref (hi), .int (first), .int (nI (tg)), .ref (rw)]) tyX5_ok nmX5 m0 e0 rfl hin5 2 (by decide) (by decide +kernel) rfl rfl rfl (Nat.le_of_ble_eq_true rfl) rfl dX5_convertTo_80 (fun H locs X => ?_)
      have k1 : (va_up (hpR G f ro (cxR K A B ln rv vr i).2 8) (h0) (.inr (5, [.ref (hi), .int (first), .int (nI (tg)), .ref (rw)]))) (h0) = .inr (5, [.ref (hi), .int (first), .int (nI (tg)), .ref (rw)]) := va_up_s _ _ _
      refine lv_iconst (v := 1) hx hb dX5_convertTo_83 (by decide) ?_
      exact hx_zret S X hr hlk (Nat.le_of_ble_eq_true rfl) (Nat.le_of_ble_eq_true rfl) (by decide) ⟨isB_t (hin ▸ hv) rfl, fun _ => by rw [hin], fun q => absurd (hin ▸ hv) q⟩ dX5_convertTo_84
    | succ n9 ih =>
      intro i  hi9 hv H locs ls X hl
      have hin : i < tg - vr := by omega
      have hV : vr + 1 + i < 8 := by omega
      have e0 : (hpR G f ro (cxR K A B ln rv vr i).2 8) h0 = .inr (5, [.ref (hi), .int (first), .int (nI (vr)), .ref (rw)]) := hp_k hrf f0 (by intro g; simp)
      have e1 : (hpR G f ro (cxR K A B ln rv vr i).2 8) rw = hAQ G 8 8 (gr) := hp_k hrf f1 (by intro g; simp)
      have e2 : (hpR G f ro (cxR K A B ln rv vr i).2 8) hi = .inr (1, [v0, v1, .ref (cva), v3, v4]) := hp_k hrf f2 (by intro g; simp)
      have e3 : (hpR G f ro (cxR K A B ln rv vr i).2 8) cva = hAQ G 4 8 (gc) := hp_k hrf f3 (by intro g; simp)
      have er1 : (hpR G f ro (cxR K A B ln rv vr i).2 8) (ro (vr + 1 + i)) = hAI G 8 ((cxR K A B ln rv vr i).2 (vr + 1 + i)) := hp_row 8 hri hV
      have er0 : (hpR G f ro (cxR K A B ln rv vr i).2 8) (ro ((vr + 1 + i) - (1))) = hAI G 8 ((cxR K A B ln rv vr i).2 ((vr + 1 + i) - (1))) := hp_row 8 hri (by omega)
      have ec : (hpR G f ro (cxR K A B ln rv vr i).2 8) (cv (vr + 1 + i)) = .inr (2, [.ref (sa (vr + 1 + i)), .int (nI (ln (vr + 1 + i)))]) := hp_k hrf (hcf _ hV) (by intro g; simp)
      have es : (hpR G f ro (cxR K A B ln rv vr i).2 8) (sa (vr + 1 + i)) = hAQ G 6 6 (gs (vr + 1 + i)) := hp_k hrf (haf _ hV) (by intro g; simp)
      have er2 : (hpR G f ro (cxR K A B ln rv vr i).2 8) (ro (vr + 1 + i)) = hAI G 8 ((cxR K A B ln rv vr i).2 (vr + 1 + i)) := er1
      refine lv_iload_n hx hb dX5_convertTo_23 rfl (lv_at hl 2 rfl) ?_
      refine lv_iload_n hx hb dX5_convertTo_24 rfl (lv_at hl 1 rfl) ?_
      refine lv_icmp_gt (tgt := 78) hx hb dX5_convertTo_25 (by decide) (fun c9 => absurd c9 (nI_nlt (a := tg) (b := vr + 1 + i) (by omega) (by omega))) (fun _ => ?_)
      refine lv_aload_n hx hb dX5_convertTo_28 rfl (lv_at hl 0 rfl) ?_
      refine xp_get S X (ci := 5) m0 e0 rfl hin5 3 (by decide) (by decide +kernel) rfl dX5_convertTo_29 ?_
      refine lv_iload_n hx hb dX5_convertTo_32 rfl (lv_at hl 2 rfl) ?_
      refine lv_iconst (v := 1) hx hb dX5_convertTo_33 (by decide) ?_
      refine lv_isub hx hb dX5_convertTo_34 ?_
      refine hx_ei (show _ = nI ((vr + 1 + i) - (1)) from pk_sub (a := vr + 1 + i) (b := 1) (by omega)) ?_
      refine xp_ald S X 8 rfl rfl m1 e1 (j := (vr + 1 + i) - (1)) (by omega) (by decide) (x := .ref (ro ((vr + 1 + i) - (1)))) (by rw [hgr _ (by omega)]; rfl) dX5_convertTo_35 ?_
      refine lv_iconst (v := 0) hx hb dX5_convertTo_36 (by decide) ?_
      refine lv_aload_n hx hb dX5_convertTo_37 rfl (lv_at hl 0 rfl) ?_
      refine xp_get S X (ci := 5) m0 e0 rfl hin5 3 (by decide) (by decide +kernel) rfl dX5_convertTo_38 ?_
      refine lv_iload_n hx hb dX5_convertTo_41 rfl (lv_at hl 2 rfl) ?_
      refine xp_ald S X 8 rfl rfl m1 e1 (j := vr + 1 + i) (by omega) (by decide) (x := .ref (ro (vr + 1 + i))) (by rw [hgr _ hV]; rfl) dX5_convertTo_42 ?_
      refine lv_iconst (v := 0) hx hb dX5_convertTo_43 (by decide) ?_
      refine lv_bipush (v := 8) hx hb dX5_convertTo_44 (by decide) ?_
      refine xp_copy S X (hrm _ (by omega)) er0 (hrm _ hV) er1 (by decide +kernel) (by decide +kernel) (by decide +kernel) (by decide +kernel) hl.1 (Nat.le_of_ble_eq_true rfl) (Nat.le_of_ble_eq_true rfl) dX5_convertTo_46 (fun H locs X => ?_)
      have k2 : (va_up (hpR G f ro (cxR K A B ln rv vr i).2 8) (ro (vr + 1 + i)) (hAI G 8 (va_cpy ((cxR K A B ln rv vr i).2 ((vr + 1 + i) - (1))) ((cxR K A B ln rv vr i).2 (vr + 1 + i)) 0 0 8))) (h0) = .inr (5, [.ref (hi), .int (first), .int (nI (vr)), .ref (rw)]) := up_k er1 e0 (by simp)
      have k3 : (va_up (hpR G f ro (cxR K A B ln rv vr i).2 8) (ro (vr + 1 + i)) (hAI G 8 (va_cpy ((cxR K A B ln rv vr i).2 ((vr + 1 + i) - (1))) ((cxR K A B ln rv vr i).2 (vr + 1 + i)) 0 0 8))) (rw) = hAQ G 8 8 (gr) := up_k er1 e1 (by simp)
      have k4 : (va_up (hpR G f ro (cxR K A B ln rv vr i).2 8) (ro (vr + 1 + i)) (hAI G 8 (va_cpy ((cxR K A B ln rv vr i).2 ((vr + 1 + i) - (1))) ((cxR K A B ln rv vr i).2 (vr + 1 + i)) 0 0 8))) (hi) = .inr (1, [v0, v1, .ref (cva), v3, v4]) := up_k er1 e2 (by simp)
      have k5 : (va_up (hpR G f ro (cxR K A B ln rv vr i).2 8) (ro (vr + 1 + i)) (hAI G 8 (va_cpy ((cxR K A B ln rv vr i).2 ((vr + 1 + i) - (1))) ((cxR K A B ln rv vr i).2 (vr + 1 + i)) 0 0 8))) (cva) = hAQ G 4 8 (gc) := up_k er1 e3 (by simp)
      have k7 : (va_up (hpR G f ro (cxR K A B ln rv vr i).2 8) (ro (vr + 1 + i)) (hAI G 8 (va_cpy ((cxR K A B ln rv vr i).2 ((vr + 1 + i) - (1))) ((cxR K A B ln rv vr i).2 (vr + 1 + i)) 0 0 8))) (cv (vr + 1 + i)) = .inr (2, [.ref (sa (vr + 1 + i)), .int (nI (ln (vr + 1 + i)))]) := up_k er1 ec (by simp)
      have k8 : (va_up (hpR G f ro (cxR K A B ln rv vr i).2 8) (ro (vr + 1 + i)) (hAI G 8 (va_cpy ((cxR K A B ln rv vr i).2 ((vr + 1 + i) - (1))) ((cxR K A B ln rv vr i).2 (vr + 1 + i)) 0 0 8))) (sa (vr + 1 + i)) = hAQ G 6 6 (gs (vr + 1 + i)) := up_k er1 es (by simp)
      have k9 : (va_up (hpR G f ro (cxR K A B ln rv vr i).2 8) (ro (vr + 1 + i)) (hAI G 8 (va_cpy ((cxR K A B ln rv vr i).2 ((vr + 1 + i) - (1))) ((cxR K A B ln rv vr i).2 (vr + 1 + i)) 0 0 8))) (ro (vr + 1 + i)) = hAI G 8 (va_cpy ((cxR K A B ln rv vr i).2 ((vr + 1 + i) - (1))) ((cxR K A B ln rv vr i).2 (vr + 1 + i)) 0 0 8) := va_up_s _ _ _
      refine lv_aload_n hx hb dX5_convertTo_49 rfl (lv_at hl 0 rfl) ?_
      refine xp_get S X (ci := 5) m0 k2 rfl hin5 0 (by decide) (by decide +kernel) rfl dX5_convertTo_50 ?_
      refine xp_getN (host := RX6) S X (ci := 1) m2 k4 rfl hin1 2 (by decide) (by decide +kernel) rfl dX5_convertTo_53 ?_
      refine lv_iload_n hx hb dX5_convertTo_56 rfl (lv_at hl 2 rfl) ?_
      refine xp_ald S X 4 rfl rfl m3 k5 (j := vr + 1 + i) (by omega) (by decide) (x := .ref (cv (vr + 1 + i))) (by rw [hgc _ hV]; rfl) dX5_convertTo_57 ?_
      refine lv_aload_n hx hb dX5_convertTo_58 rfl (lv_at hl 0 rfl) ?_
      refine xp_get S X (ci := 5) m0 k2 rfl hin5 3 (by decide) (by decide +kernel) rfl dX5_convertTo_59 ?_
      refine lv_iload_n hx hb dX5_convertTo_62 rfl (lv_at hl 2 rfl) ?_
      refine xp_ald S X 8 rfl rfl m1 k3 (j := vr + 1 + i) (by omega) (by decide) (x := .ref (ro (vr + 1 + i))) (by rw [hgr _ hV]; rfl) dX5_convertTo_63 ?_
      have hs9 : ∀ k, k < ln (vr + 1 + i) → (va_up (hpR G f ro (cxR K A B ln rv vr i).2 8) (ro (vr + 1 + i)) (hAI G 8 (va_cpy ((cxR K A B ln rv vr i).2 ((vr + 1 + i) - (1))) ((cxR K A B ln rv vr i).2 (vr + 1 + i)) 0 0 8))) (sp (vr + 1 + i) k) = .inr (4, [.int (K (vr + 1 + i) k), .int (A (vr + 1 + i) k), .int (B (vr + 1 + i) k)]) := fun k hk => up_k er2 (hp_k hrf (hsf _ hV k hk) (by intro g; simp)) (by simp)
      refine hx_Vi (rest := []) S X (c_X2_applyTo l G L (va_up (hpR G f ro (cxR K A B ln rv vr i).2 8) (ro (vr + 1 + i)) (hAI G 8 (va_cpy ((cxR K A B ln rv vr i).2 ((vr + 1 + i) - (1))) ((cxR K A B ln rv vr i).2 (vr + 1 + i)) 0 0 8))) (cv (vr + 1 + i)) (sa (vr + 1 + i)) (ro (vr + 1 + i)) (ln (vr + 1 + i)) (gs (vr + 1 + i)) (sp (vr + 1 + i)) (K (vr + 1 + i)) (A (vr + 1 + i)) (B (vr + 1 + i)) (va_cpy ((cxR K A B ln rv vr i).2 ((vr + 1 + i) - (1))) ((cxR K A B ln rv vr i).2 (vr + 1 + i)) 0 0 8) (hcm _ hV) k7 (ham _ hV) k8 (hrm _ hV) k9 (hl6 _ hV) (fun q => by have h1 := haf _ hV; rw [q, hrf _ hV] at h1; exact absurd h1 (by simp)) (hgs _ hV) (hsm _ hV) hs9 (hok _ hV)) gX5_convertTo_X2_applyTo rfl (n := 1) (by decide +kernel) rfl ⟨(Nat.le_of_ble_eq_true rfl), (Nat.le_of_ble_eq_true rfl)⟩ (xp_recv (ci := 2) X rfl (hcm _ hV) k7) hl.1 rfl (Nat.le_of_ble_eq_true rfl) dX5_convertTo_64 ⟨(Nat.le_of_ble_eq_true rfl), (Nat.le_of_ble_eq_true rfl)⟩ (fun r wd1 H locs hp X => ?_)
      obtain ⟨hr64, rfl⟩ := hp
      have k10 : (va_up (va_up (hpR G f ro (cxR K A B ln rv vr i).2 8) (ro (vr + 1 + i)) (hAI G 8 (va_cpy ((cxR K A B ln rv vr i).2 ((vr + 1 + i) - (1))) ((cxR K A B ln rv vr i).2 (vr + 1 + i)) 0 0 8))) (ro (vr + 1 + i)) (hAI G 8 ((apX (K (vr + 1 + i)) (A (vr + 1 + i)) (B (vr + 1 + i)) (va_cpy ((cxR K A B ln rv vr i).2 ((vr + 1 + i) - (1))) ((cxR K A B ln rv vr i).2 (vr + 1 + i)) 0 0 8) (ln (vr + 1 + i))).2))) (h0) = .inr (5, [.ref (hi), .int (first), .int (nI (vr)), .ref (rw)]) := up_k k9 k2 (by simp)
      have k11 : (va_up (va_up (hpR G f ro (cxR K A B ln rv vr i).2 8) (ro (vr + 1 + i)) (hAI G 8 (va_cpy ((cxR K A B ln rv vr i).2 ((vr + 1 + i) - (1))) ((cxR K A B ln rv vr i).2 (vr + 1 + i)) 0 0 8))) (ro (vr + 1 + i)) (hAI G 8 ((apX (K (vr + 1 + i)) (A (vr + 1 + i)) (B (vr + 1 + i)) (va_cpy ((cxR K A B ln rv vr i).2 ((vr + 1 + i) - (1))) ((cxR K A B ln rv vr i).2 (vr + 1 + i)) 0 0 8) (ln (vr + 1 + i))).2))) (rw) = hAQ G 8 8 (gr) := up_k k9 k3 (by simp)
      have k12 : (va_up (va_up (hpR G f ro (cxR K A B ln rv vr i).2 8) (ro (vr + 1 + i)) (hAI G 8 (va_cpy ((cxR K A B ln rv vr i).2 ((vr + 1 + i) - (1))) ((cxR K A B ln rv vr i).2 (vr + 1 + i)) 0 0 8))) (ro (vr + 1 + i)) (hAI G 8 ((apX (K (vr + 1 + i)) (A (vr + 1 + i)) (B (vr + 1 + i)) (va_cpy ((cxR K A B ln rv vr i).2 ((vr + 1 + i) - (1))) ((cxR K A B ln rv vr i).2 (vr + 1 + i)) 0 0 8) (ln (vr + 1 + i))).2))) (hi) = .inr (1, [v0, v1, .ref (cva), v3, v4]) := up_k k9 k4 (by simp)
      have k13 : (va_up (va_up (hpR G f ro (cxR K A B ln rv vr i).2 8) (ro (vr + 1 + i)) (hAI G 8 (va_cpy ((cxR K A B ln rv vr i).2 ((vr + 1 + i) - (1))) ((cxR K A B ln rv vr i).2 (vr + 1 + i)) 0 0 8))) (ro (vr + 1 + i)) (hAI G 8 ((apX (K (vr + 1 + i)) (A (vr + 1 + i)) (B (vr + 1 + i)) (va_cpy ((cxR K A B ln rv vr i).2 ((vr + 1 + i) - (1))) ((cxR K A B ln rv vr i).2 (vr + 1 + i)) 0 0 8) (ln (vr + 1 + i))).2))) (cva) = hAQ G 4 8 (gc) := up_k k9 k5 (by simp)
      have k14 : (va_up (va_up (hpR G f ro (cxR K A B ln rv vr i).2 8) (ro (vr + 1 + i)) (hAI G 8 (va_cpy ((cxR K A B ln rv vr i).2 ((vr + 1 + i) - (1))) ((cxR K A B ln rv vr i).2 (vr + 1 + i)) 0 0 8))) (ro (vr + 1 + i)) (hAI G 8 ((apX (K (vr + 1 + i)) (A (vr + 1 + i)) (B (vr + 1 + i)) (va_cpy ((cxR K A B ln rv vr i).2 ((vr + 1 + i) - (1))) ((cxR K A B ln rv vr i).2 (vr + 1 + i)) 0 0 8) (ln (vr + 1 + i))).2))) (cv (vr + 1 + i)) = .inr (2, [.ref (sa (vr + 1 + i)), .int (nI (ln (vr + 1 + i)))]) := up_k k9 k7 (by simp)
      have k15 : (va_up (va_up (hpR G f ro (cxR K A B ln rv vr i).2 8) (ro (vr + 1 + i)) (hAI G 8 (va_cpy ((cxR K A B ln rv vr i).2 ((vr + 1 + i) - (1))) ((cxR K A B ln rv vr i).2 (vr + 1 + i)) 0 0 8))) (ro (vr + 1 + i)) (hAI G 8 ((apX (K (vr + 1 + i)) (A (vr + 1 + i)) (B (vr + 1 + i)) (va_cpy ((cxR K A B ln rv vr i).2 ((vr + 1 + i) - (1))) ((cxR K A B ln rv vr i).2 (vr + 1 + i)) 0 0 8) (ln (vr + 1 + i))).2))) (sa (vr + 1 + i)) = hAQ G 6 6 (gs (vr + 1 + i)) := up_k k9 k8 (by simp)
      have k16 : (va_up (va_up (hpR G f ro (cxR K A B ln rv vr i).2 8) (ro (vr + 1 + i)) (hAI G 8 (va_cpy ((cxR K A B ln rv vr i).2 ((vr + 1 + i) - (1))) ((cxR K A B ln rv vr i).2 (vr + 1 + i)) 0 0 8))) (ro (vr + 1 + i)) (hAI G 8 ((apX (K (vr + 1 + i)) (A (vr + 1 + i)) (B (vr + 1 + i)) (va_cpy ((cxR K A B ln rv vr i).2 ((vr + 1 + i) - (1))) ((cxR K A B ln rv vr i).2 (vr + 1 + i)) 0 0 8) (ln (vr + 1 + i))).2))) (ro (vr + 1 + i)) = hAI G 8 ((apX (K (vr + 1 + i)) (A (vr + 1 + i)) (B (vr + 1 + i)) (va_cpy ((cxR K A B ln rv vr i).2 ((vr + 1 + i) - (1))) ((cxR K A B ln rv vr i).2 (vr + 1 + i)) 0 0 8) (ln (vr + 1 + i))).2) := va_up_s _ _ _
      by_cases h64 : (apX (K (vr + 1 + i)) (A (vr + 1 + i)) (B (vr + 1 + i)) (va_cpy ((cxR K A B ln rv vr i).2 ((vr + 1 + i) - (1))) ((cxR K A B ln rv vr i).2 (vr + 1 + i)) 0 0 8) (ln (vr + 1 + i))).1 = true
      · skip
        refine hx_ei (hr64.1 h64) ?_
        refine lv_if_ne (tgt := 72) hx hb dX5_convertTo_67 (by decide) (fun _ => ?_) (fun c9 => absurd c9 (by decide))
        refine lv_iinc (v := nI (vr + 1 + i + 1)) (lv' := [(2, .int (nI (vr + 1 + i + 1))), (0, .ref (h0)), (1, .int (nI (tg)))]) hx hb dX5_convertTo_72 hl (k := 2) rfl (nI_add (vr + 1 + i) 1) (by decide) rfl (fun ls hl => ?_)
        refine lv_goto (tgt := 23) hx hb dX5_convertTo_75 (by decide) ?_
        have hg1 := cxR_go (K := K) (A := A) (B := B) (ln := ln) (rv := rv) (vr := vr) hv
        exact ih (i + 1) (by omega) (by rw [hg1]; exact h64) _ _ _ (X.to (by rw [up_up, hp_upd 8 hri hV, hg1])) (lv_sub hl [1, 2, 0] rfl)
      · skip
        refine hx_ei (hr64.2 h64) ?_
        refine lv_if_ne (tgt := 72) hx hb dX5_convertTo_67 (by decide) (fun c9 => absurd (by decide) c9) (fun _ => ?_)
        refine lv_iconst (v := 0) hx hb dX5_convertTo_70 (by decide) ?_
        have hg1 := cxR_go (K := K) (A := A) (B := B) (ln := ln) (rv := rv) (vr := vr) hv
        have hst : cxR K A B ln rv vr (tg - vr) = cxR K A B ln rv vr (i + 1) := by rw [show tg - vr = (i + 1) + (tg - vr - (i + 1)) by omega]; exact cxR_stop (by rw [hg1]; exact h64) _
        exact hx_zret S X hr hlk (Nat.le_of_ble_eq_true rfl) (Nat.le_of_ble_eq_true rfl) (by decide) ⟨isB_f (by rw [hst, hg1]; exact h64) rfl, fun q => absurd q (by rw [hst, hg1]; exact h64), fun _ => by rw [hst, hg1, up_up, hp_upd 8 hri hV]⟩ dX5_convertTo_71
  exact loop (tg - vr) 0 (by omega) rfl _ _ _ (X.to (by rw [show (cxR K A B ln rv vr 0).2 = rv from rfl, hp_id 8 hrf])) (lv_sub hl [1, 2, 0] rfl)

set_option maxRecDepth 100000 in
set_option maxHeartbeats 4000000 in
theorem c_X5_init (l : Launch) (G : hG) (L : List Nat) (f : Nat → va_E) (h0 hi : Nat) (ver : Int32) (m0 : h0 ∈ L) (f0 : f h0 = .inr (5, [.null, .int ((0 : Int32)), .int ((0 : Int32)), .null]))  : hMv l G yX5_init wsX5_init ({ frames := 1, cells := 9, slots := 72, locals := 20 } : Room) (va_pl L f) [.ref (h0), .ref (hi), .int (ver)] (fun w => ∃ (rr : Nat → Nat) (q : Nat), (∀ i j, i < 8 → j < 8 → rr i = rr j → i = j) ∧ (∀ i, i < 8 → rr i ∉ L) ∧ q ∉ L ++ (List.range 8).map rr ∧ w = va_pl ((L ++ (List.range 8).map rr) ++ [q]) (va_up (va_up (vr_up f ((List.range 8).map rr) (hAI G 8 (fun _ => 0))) q (hAQ G 8 8 (fun i => if i < 8 then some (rr i) else none))) h0 (.inr (5, [.ref hi, .int ver, .int ver, .ref q])))) := by
  refine hMv.of (cc := cX5_init) (maxL := 3) none RX5 rfl (by decide +kernel) rfl (Nat.le_of_ble_eq_true rfl) ?_
  intro p e s m args below meth c S hr hlk hin X ls hl
  have hx := S.1
  have hb := S.2.1
  have hown := S.2.2.2.1
  have hts := S.2.2.2.2
  have hl : lv_has ls 3 [(0, .ref (h0)), (1, .ref (hi)), (2, .int (ver))] := hl
  have hin5 : ∀ w ∈ wsX50, w ∈ wsX5_init := by decide +kernel
  refine lv_aload_n hx hb dX5_init_0 rfl (lv_at hl 0 rfl) ?_
  refine W.objInit hx hb hown (hts (Cond.methodLink RX5 3 objectInit) (by decide +kernel)) (hts (Cond.instanceMethod objectInit) (by decide +kernel)) (hts (Cond.code objectInit ⟨#[0xb1]⟩ 1 none) (by decide +kernel)) rfl (by rw [S.2.2.1]; exact hl.1) rfl dX5_init_1 (Nat.le_of_ble_eq_true rfl) (Nat.le_of_ble_eq_true rfl) ?_
  refine W.eq (g2 := F0 m 4 ls []) rfl ?_
  refine lv_aload_n hx hb dX5_init_4 rfl (lv_at hl 0 rfl) ?_
  refine lv_bipush (v := 8) hx hb dX5_init_5 (by decide) ?_
  refine lv_bipush (v := 8) hx hb dX5_init_7 (by decide) ?_
  refine xp_mna S X (by decide +kernel) (by decide +kernel) (Nat.le_of_ble_eq_true rfl) (Nat.le_of_ble_eq_true rfl) dX5_init_9 (fun q1 rr H hri hrf hq1 X => ?_)
  have k2 : (vr_up f ((List.range 8).map rr) (hAI G 8 (fun _ => 0))) (h0) = .inr (5, [.null, .int ((0 : Int32)), .int ((0 : Int32)), .null]) := by rw [vr_up_ne (rng_ne m0 hrf)]; exact f0
  have k3 : (va_up (vr_up f ((List.range 8).map rr) (hAI G 8 (fun _ => 0))) (q1) (hAQ G 8 8 (fun i => if i < 8 then some (rr i) else none))) (h0) = .inr (5, [.null, .int ((0 : Int32)), .int ((0 : Int32)), .null]) := up_n k2 (fun q => hq1 (q ▸ (List.mem_append_left _ m0)))
  have k4 : (va_up (vr_up f ((List.range 8).map rr) (hAI G 8 (fun _ => 0))) (q1) (hAQ G 8 8 (fun i => if i < 8 then some (rr i) else none))) (q1) = hAQ G 8 8 (fun i => if i < 8 then some (rr i) else none) := va_up_s _ _ _
  refine xp_putF S X (ci := 5) (fs2 := [.null, .int ((0 : Int32)), .int ((0 : Int32)), .ref (q1)]) tyX5_ok nmX5 (List.mem_append_left _ (List.mem_append_left _ m0)) k3 rfl hin5 3 (by decide) (by decide +kernel) rfl hin rfl rfl rfl (Nat.le_of_ble_eq_true rfl) rfl dX5_init_13 (fun H locs X => ?_)
  have k5 : (va_up (va_up (vr_up f ((List.range 8).map rr) (hAI G 8 (fun _ => 0))) (q1) (hAQ G 8 8 (fun i => if i < 8 then some (rr i) else none))) (h0) (.inr (5, [.null, .int ((0 : Int32)), .int ((0 : Int32)), .ref (q1)]))) (q1) = hAQ G 8 8 (fun i => if i < 8 then some (rr i) else none) := up_k k3 k4 (by simp)
  have k6 : (va_up (va_up (vr_up f ((List.range 8).map rr) (hAI G 8 (fun _ => 0))) (q1) (hAQ G 8 8 (fun i => if i < 8 then some (rr i) else none))) (h0) (.inr (5, [.null, .int ((0 : Int32)), .int ((0 : Int32)), .ref (q1)]))) (h0) = .inr (5, [.null, .int ((0 : Int32)), .int ((0 : Int32)), .ref (q1)]) := va_up_s _ _ _
  refine lv_aload_n hx hb dX5_init_16 rfl (lv_at hl 0 rfl) ?_
  refine lv_aload_n hx hb dX5_init_17 rfl (lv_at hl 1 rfl) ?_
  refine xp_putF S X (ci := 5) (fs2 := [.ref (hi), .int ((0 : Int32)), .int ((0 : Int32)), .ref (q1)]) tyX5_ok nmX5 (List.mem_append_left _ (List.mem_append_left _ m0)) k6 rfl hin5 0 (by decide) (by decide +kernel) rfl hin rfl rfl rfl (Nat.le_of_ble_eq_true rfl) rfl dX5_init_18 (fun H locs X => ?_)
  have k7 : (va_up (va_up (va_up (vr_up f ((List.range 8).map rr) (hAI G 8 (fun _ => 0))) (q1) (hAQ G 8 8 (fun i => if i < 8 then some (rr i) else none))) (h0) (.inr (5, [.null, .int ((0 : Int32)), .int ((0 : Int32)), .ref (q1)]))) (h0) (.inr (5, [.ref (hi), .int ((0 : Int32)), .int ((0 : Int32)), .ref (q1)]))) (q1) = hAQ G 8 8 (fun i => if i < 8 then some (rr i) else none) := up_k k6 k5 (by simp)
  have k8 : (va_up (va_up (va_up (vr_up f ((List.range 8).map rr) (hAI G 8 (fun _ => 0))) (q1) (hAQ G 8 8 (fun i => if i < 8 then some (rr i) else none))) (h0) (.inr (5, [.null, .int ((0 : Int32)), .int ((0 : Int32)), .ref (q1)]))) (h0) (.inr (5, [.ref (hi), .int ((0 : Int32)), .int ((0 : Int32)), .ref (q1)]))) (h0) = .inr (5, [.ref (hi), .int ((0 : Int32)), .int ((0 : Int32)), .ref (q1)]) := va_up_s _ _ _
  refine lv_aload_n hx hb dX5_init_21 rfl (lv_at hl 0 rfl) ?_
  refine lv_iload_n hx hb dX5_init_22 rfl (lv_at hl 2 rfl) ?_
  refine xp_putF S X (ci := 5) (fs2 := [.ref (hi), .int (ver), .int ((0 : Int32)), .ref (q1)]) tyX5_ok nmX5 (List.mem_append_left _ (List.mem_append_left _ m0)) k8 rfl hin5 1 (by decide) (by decide +kernel) rfl hin rfl rfl rfl (Nat.le_of_ble_eq_true rfl) rfl dX5_init_23 (fun H locs X => ?_)
  have k9 : (va_up (va_up (va_up (va_up (vr_up f ((List.range 8).map rr) (hAI G 8 (fun _ => 0))) (q1) (hAQ G 8 8 (fun i => if i < 8 then some (rr i) else none))) (h0) (.inr (5, [.null, .int ((0 : Int32)), .int ((0 : Int32)), .ref (q1)]))) (h0) (.inr (5, [.ref (hi), .int ((0 : Int32)), .int ((0 : Int32)), .ref (q1)]))) (h0) (.inr (5, [.ref (hi), .int (ver), .int ((0 : Int32)), .ref (q1)]))) (q1) = hAQ G 8 8 (fun i => if i < 8 then some (rr i) else none) := up_k k8 k7 (by simp)
  have k10 : (va_up (va_up (va_up (va_up (vr_up f ((List.range 8).map rr) (hAI G 8 (fun _ => 0))) (q1) (hAQ G 8 8 (fun i => if i < 8 then some (rr i) else none))) (h0) (.inr (5, [.null, .int ((0 : Int32)), .int ((0 : Int32)), .ref (q1)]))) (h0) (.inr (5, [.ref (hi), .int ((0 : Int32)), .int ((0 : Int32)), .ref (q1)]))) (h0) (.inr (5, [.ref (hi), .int (ver), .int ((0 : Int32)), .ref (q1)]))) (h0) = .inr (5, [.ref (hi), .int (ver), .int ((0 : Int32)), .ref (q1)]) := va_up_s _ _ _
  refine lv_aload_n hx hb dX5_init_26 rfl (lv_at hl 0 rfl) ?_
  refine lv_iload_n hx hb dX5_init_27 rfl (lv_at hl 2 rfl) ?_
  refine xp_put S X (ci := 5) (fs2 := [.ref (hi), .int (ver), .int (ver), .ref (q1)]) tyX5_ok nmX5 (List.mem_append_left _ (List.mem_append_left _ m0)) k10 rfl hin5 2 (by decide) (by decide +kernel) rfl rfl rfl (Nat.le_of_ble_eq_true rfl) rfl dX5_init_28 (fun H locs X => ?_)
  have k11 : (va_up (va_up (va_up (va_up (va_up (vr_up f ((List.range 8).map rr) (hAI G 8 (fun _ => 0))) (q1) (hAQ G 8 8 (fun i => if i < 8 then some (rr i) else none))) (h0) (.inr (5, [.null, .int ((0 : Int32)), .int ((0 : Int32)), .ref (q1)]))) (h0) (.inr (5, [.ref (hi), .int ((0 : Int32)), .int ((0 : Int32)), .ref (q1)]))) (h0) (.inr (5, [.ref (hi), .int (ver), .int ((0 : Int32)), .ref (q1)]))) (h0) (.inr (5, [.ref (hi), .int (ver), .int (ver), .ref (q1)]))) (q1) = hAQ G 8 8 (fun i => if i < 8 then some (rr i) else none) := up_k k10 k9 (by simp)
  have k12 : (va_up (va_up (va_up (va_up (va_up (vr_up f ((List.range 8).map rr) (hAI G 8 (fun _ => 0))) (q1) (hAQ G 8 8 (fun i => if i < 8 then some (rr i) else none))) (h0) (.inr (5, [.null, .int ((0 : Int32)), .int ((0 : Int32)), .ref (q1)]))) (h0) (.inr (5, [.ref (hi), .int ((0 : Int32)), .int ((0 : Int32)), .ref (q1)]))) (h0) (.inr (5, [.ref (hi), .int (ver), .int ((0 : Int32)), .ref (q1)]))) (h0) (.inr (5, [.ref (hi), .int (ver), .int (ver), .ref (q1)]))) (h0) = .inr (5, [.ref (hi), .int (ver), .int (ver), .ref (q1)]) := va_up_s _ _ _
  exact hx_vret S X hr hlk (Nat.le_of_ble_eq_true rfl) (Nat.le_of_ble_eq_true rfl) ⟨rr, q1, hri, hrf, hq1, by rw [up_up, up_up, up_up]⟩ dX5_init_31

set_option maxRecDepth 100000 in
set_option maxHeartbeats 4000000 in
theorem c_X1_fieldSet (l : Launch) (G : hG) (L : List Nat) (f : Nat → va_E) (h0 fs cva cur k : Nat) (ty stg : Int32) (gf : Nat → Int32) (m0 : h0 ∈ L) (f0 : f h0 = .inr (1, [.int (ty), .ref (fs), .ref (cva), .int (nI (cur)), .int (stg)])) (m1 : fs ∈ L) (f1 : f fs = hAI G 8 (gf)) (hk : k < 8) : hMi l G yX1_fieldSet wsX1_fieldSet ({ frames := 0, cells := 0, slots := 0, locals := 0 } : Room) (va_pl L f) [.ref (h0), .int (nI (k))] (fun r w => r = gf k ∧ w = va_pl L f) := by
  refine hMi.of (cc := cX1_fieldSet) (maxL := 2) (some .int) RX1 rfl (by decide +kernel) rfl (Nat.le_of_ble_eq_true rfl) ?_
  intro p e s m args below meth c S hr hlk X ls hl
  have hx := S.1
  have hb := S.2.1
  have hown := S.2.2.2.1
  have hts := S.2.2.2.2
  have hl : lv_has ls 2 [(0, .ref (h0)), (1, .int (nI (k)))] := hl
  have hin1 : ∀ w ∈ wsX10, w ∈ wsX1_fieldSet := by decide +kernel
  refine lv_iload_n hx hb dX1_fieldSet_0 rfl (lv_at hl 1 rfl) ?_
  refine lv_if_lt (tgt := 10) hx hb dX1_fieldSet_1 (by decide) (fun c9 => absurd c9 (nI_pos (n := k) (by omega))) (fun _ => ?_)
  refine lv_iload_n hx hb dX1_fieldSet_4 rfl (lv_at hl 1 rfl) ?_
  refine lv_bipush (v := 8) hx hb dX1_fieldSet_5 (by decide) ?_
  refine lv_icmp_lt (tgt := 12) hx hb dX1_fieldSet_7 (by decide) (fun _ => ?_) (fun c9 => absurd (nI_lt (a := k) (b := 8) hk (by omega)) c9)
  refine lv_aload_n hx hb dX1_fieldSet_12 rfl (lv_at hl 0 rfl) ?_
  refine xp_get S X (ci := 1) m0 f0 rfl hin1 1 (by decide) (by decide +kernel) rfl dX1_fieldSet_13 ?_
  refine lv_iload_n hx hb dX1_fieldSet_16 rfl (lv_at hl 1 rfl) ?_
  refine xp_ild S X m1 f1 (j := k) (by omega) (by decide) (x := gf (k)) (rfl) dX1_fieldSet_17 ?_
  exact hx_iret S X hr hlk (Nat.le_of_ble_eq_true rfl) (Nat.le_of_ble_eq_true rfl) ⟨rfl, rfl⟩ dX1_fieldSet_18

set_option maxRecDepth 100000 in
set_option maxHeartbeats 4000000 in
theorem c_X1_stagedSet (l : Launch) (G : hG) (L : List Nat) (f : Nat → va_E) (h0 fs cva cur : Nat) (ty stg : Int32) (gf : Nat → Int32) (m0 : h0 ∈ L) (f0 : f h0 = .inr (1, [.int (ty), .ref (fs), .ref (cva), .int (nI (cur)), .int (stg)])) (m1 : fs ∈ L) (f1 : f fs = hAI G 8 (gf)) (h7 : cur < 7) : hMi l G yX1_stagedSet wsX1_stagedSet ({ frames := 1, cells := 0, slots := 0, locals := 21 } : Room) (va_pl L f) [.ref (h0)] (fun r w => r = gf (cur + 1) ∧ w = va_pl L f) := by
  refine hMi.of (cc := cX1_stagedSet) (maxL := 1) (some .int) RX1 rfl (by decide +kernel) rfl (Nat.le_of_ble_eq_true rfl) ?_
  intro p e s m args below meth c S hr hlk X ls hl
  have hx := S.1
  have hb := S.2.1
  have hown := S.2.2.2.1
  have hts := S.2.2.2.2
  have hl : lv_has ls 1 [(0, .ref (h0))] := hl
  have hin1 : ∀ w ∈ wsX10, w ∈ wsX1_stagedSet := by decide +kernel
  refine lv_aload_n hx hb dX1_stagedSet_0 rfl (lv_at hl 0 rfl) ?_
  refine lv_aload_n hx hb dX1_stagedSet_1 rfl (lv_at hl 0 rfl) ?_
  refine xp_get S X (ci := 1) m0 f0 rfl hin1 3 (by decide) (by decide +kernel) rfl dX1_stagedSet_2 ?_
  refine lv_iconst (v := 1) hx hb dX1_stagedSet_5 (by decide) ?_
  refine lv_iadd hx hb dX1_stagedSet_6 ?_
  refine hx_ei (show _ = nI (cur + 1) from nI_add (cur) (1)) ?_
  refine hx_Vi (rest := []) S X (c_X1_fieldSet l G L f (h0) (fs) (cva) (cur) (cur + 1) (ty) (stg) (gf) m0 f0 m1 f1 (by omega)) gX1_stagedSet_X1_fieldSet rfl (n := 1) (by decide +kernel) rfl ⟨(Nat.le_of_ble_eq_true rfl), (Nat.le_of_ble_eq_true rfl)⟩ (xp_recv (ci := 1) X rfl m0 f0) hl.1 rfl (Nat.le_of_ble_eq_true rfl) dX1_stagedSet_7 ⟨(Nat.le_of_ble_eq_true rfl), (Nat.le_of_ble_eq_true rfl)⟩ (fun r wd1 H locs hp X => ?_)
  obtain ⟨rfl, rfl⟩ := hp
  exact hx_iret S X hr hlk (Nat.le_of_ble_eq_true rfl) (Nat.le_of_ble_eq_true rfl) ⟨rfl, rfl⟩ dX1_stagedSet_10

set_option maxRecDepth 100000 in
set_option maxHeartbeats 4000000 in
theorem c_X1_isFull (l : Launch) (G : hG) (L : List Nat) (f : Nat → va_E) (h0 fs cva cur : Nat) (ty stg : Int32) (m0 : h0 ∈ L) (f0 : f h0 = .inr (1, [.int (ty), .ref (fs), .ref (cva), .int (nI (cur)), .int (stg)])) (h8 : cur < 8) : hMi l G yX1_isFull wsX1_isFull ({ frames := 0, cells := 0, slots := 0, locals := 0 } : Room) (va_pl L f) [.ref (h0)] (fun r w => isB r (7 ≤ cur) ∧ w = va_pl L f) := by
  refine hMi.of (cc := cX1_isFull) (maxL := 1) (some .boolean) RX1 rfl (by decide +kernel) rfl (Nat.le_of_ble_eq_true rfl) ?_
  intro p e s m args below meth c S hr hlk X ls hl
  have hx := S.1
  have hb := S.2.1
  have hown := S.2.2.2.1
  have hts := S.2.2.2.2
  have hl : lv_has ls 1 [(0, .ref (h0))] := hl
  have hin1 : ∀ w ∈ wsX10, w ∈ wsX1_isFull := by decide +kernel
  refine lv_aload_n hx hb dX1_isFull_0 rfl (lv_at hl 0 rfl) ?_
  refine xp_get S X (ci := 1) m0 f0 rfl hin1 3 (by decide) (by decide +kernel) rfl dX1_isFull_1 ?_
  refine lv_bipush (v := 7) hx hb dX1_isFull_4 (by decide) ?_
  refine lv_icmp_lt (tgt := 13) hx hb dX1_isFull_6 (by decide) (fun c6 => ?_) (fun c6 => ?_)
  · skip
    have c6 := (nI_ltI (a := cur) (b := 7) (by omega) (by omega)).mp c6
    refine lv_iconst (v := 0) hx hb dX1_isFull_13 (by decide) ?_
    exact hx_zret S X hr hlk (Nat.le_of_ble_eq_true rfl) (Nat.le_of_ble_eq_true rfl) (by decide) ⟨isB_f (by omega) rfl, rfl⟩ dX1_isFull_14
  · skip
    have c6 := (not_congr (nI_ltI (a := cur) (b := 7) (by omega) (by omega))).mp c6
    refine lv_iconst (v := 1) hx hb dX1_isFull_9 (by decide) ?_
    refine lv_goto (tgt := 14) hx hb dX1_isFull_10 (by decide) ?_
    exact hx_zret S X hr hlk (Nat.le_of_ble_eq_true rfl) (Nat.le_of_ble_eq_true rfl) (by decide) ⟨isB_t (by omega) rfl, rfl⟩ dX1_isFull_14

set_option maxRecDepth 100000 in
set_option maxHeartbeats 4000000 in
theorem c_X1_beginFull (l : Launch) (G : hG) (L : List Nat) (f : Nat → va_E) (h0 fs cva : Nat) (ty stg : Int32) (m0 : h0 ∈ L) (f0 : f h0 = .inr (1, [.int (ty), .ref (fs), .ref (cva), .int (nI (7)), .int (stg)]))  : hMi l G yX1_beginStaged wsX1_beginStaged ({ frames := 1, cells := 0, slots := 0, locals := 20 } : Room) (va_pl L f) [.ref (h0)] (fun r w => r = -2000010 ∧ w = va_pl L f) := by
  refine hMi.of (cc := cX1_beginStaged) (maxL := 1) (some .int) RX1 rfl (by decide +kernel) rfl (Nat.le_of_ble_eq_true rfl) ?_
  intro p e s m args below meth c S hr hlk X ls hl
  have hx := S.1
  have hb := S.2.1
  have hown := S.2.2.2.1
  have hts := S.2.2.2.2
  have hl : lv_has ls 1 [(0, .ref (h0))] := hl
  have hin1 : ∀ w ∈ wsX10, w ∈ wsX1_beginStaged := by decide +kernel
  have hin2 : ∀ w ∈ wsX20, w ∈ wsX1_beginStaged := by decide +kernel
  refine lv_aload_n hx hb dX1_beginStaged_0 rfl (lv_at hl 0 rfl) ?_
  refine hx_Vi (rest := []) S X (c_X1_isFull l G L f (h0) (fs) (cva) (7) (ty) (stg) m0 f0 (by omega)) gX1_beginStaged_X1_isFull rfl (n := 0) (by decide +kernel) rfl ⟨(Nat.le_of_ble_eq_true rfl), (Nat.le_of_ble_eq_true rfl)⟩ (xp_recv (ci := 1) X rfl m0 f0) hl.1 rfl (Nat.le_of_ble_eq_true rfl) dX1_beginStaged_1 ⟨(Nat.le_of_ble_eq_true rfl), (Nat.le_of_ble_eq_true rfl)⟩ (fun r wd1 H locs hp X => ?_)
  obtain ⟨hr1, rfl⟩ := hp
  refine hx_ei (hr1.1 (by omega)) ?_
  refine lv_if_eq (tgt := 10) hx hb dX1_beginStaged_4 (by decide) (fun c9 => absurd c9 (by decide)) (fun _ => ?_)
  refine lv_ldc (v := -2000010) hx hb hown (hts (Cond.constant RX1 37 (-2000010)) (by decide +kernel)) dX1_beginStaged_7 ?_
  exact hx_iret S X hr hlk (Nat.le_of_ble_eq_true rfl) (Nat.le_of_ble_eq_true rfl) ⟨rfl, rfl⟩ dX1_beginStaged_9

set_option maxRecDepth 100000 in
set_option maxHeartbeats 4000000 in
theorem c_X1_beginStaged (l : Launch) (G : hG) (L : List Nat) (f : Nat → va_E) (h0 fs cva c1 s1 cur ln : Nat) (ty stg : Int32) (gf : Nat → Int32) (gc : Nat → Option Nat) (m0 : h0 ∈ L) (f0 : f h0 = .inr (1, [.int (ty), .ref (fs), .ref (cva), .int (nI (cur)), .int (stg)])) (m1 : fs ∈ L) (f1 : f fs = hAI G 8 (gf)) (m2 : cva ∈ L) (f2 : f cva = hAQ G 4 8 (gc)) (m3 : c1 ∈ L) (f3 : f c1 = .inr (2, [.ref (s1), .int (nI (ln))])) (h7 : cur < 7) (hgc : gc (cur + 1) = some c1) : hMi l G yX1_beginStaged wsX1_beginStaged ({ frames := 1, cells := 0, slots := 0, locals := 20 } : Room) (va_pl L f) [.ref (h0)] (fun r w => r = nI (cur + 1) ∧ w = va_pl L (va_up (va_up (va_up f fs (hAI G 8 (upd gf (cur + 1) (gf cur)))) c1 (.inr (2, [.ref s1, .int 0]))) h0 (.inr (1, [.int ty, .ref fs, .ref cva, .int (nI cur), .int 1])))) := by
  refine hMi.of (cc := cX1_beginStaged) (maxL := 1) (some .int) RX1 rfl (by decide +kernel) rfl (Nat.le_of_ble_eq_true rfl) ?_
  intro p e s m args below meth c S hr hlk X ls hl
  have hx := S.1
  have hb := S.2.1
  have hown := S.2.2.2.1
  have hts := S.2.2.2.2
  have hl : lv_has ls 1 [(0, .ref (h0))] := hl
  have hin1 : ∀ w ∈ wsX10, w ∈ wsX1_beginStaged := by decide +kernel
  have hin2 : ∀ w ∈ wsX20, w ∈ wsX1_beginStaged := by decide +kernel
  refine lv_aload_n hx hb dX1_beginStaged_0 rfl (lv_at hl 0 rfl) ?_
  refine hx_Vi (rest := []) S X (c_X1_isFull l G L f (h0) (fs) (cva) (cur) (ty) (stg) m0 f0 (by omega)) gX1_beginStaged_X1_isFull rfl (n := 0) (by decide +kernel) rfl ⟨(Nat.le_of_ble_eq_true rfl), (Nat.le_of_ble_eq_true rfl)⟩ (xp_recv (ci := 1) X rfl m0 f0) hl.1 rfl (Nat.le_of_ble_eq_true rfl) dX1_beginStaged_1 ⟨(Nat.le_of_ble_eq_true rfl), (Nat.le_of_ble_eq_true rfl)⟩ (fun r wd1 H locs hp X => ?_)
  obtain ⟨hr1, rfl⟩ := hp
  refine hx_ei (hr1.2 (by omega)) ?_
  refine lv_if_eq (tgt := 10) hx hb dX1_beginStaged_4 (by decide) (fun _ => ?_) (fun c9 => absurd (by decide) c9)
  refine lv_aload_n hx hb dX1_beginStaged_10 rfl (lv_at hl 0 rfl) ?_
  refine xp_get S X (ci := 1) m0 f0 rfl hin1 1 (by decide) (by decide +kernel) rfl dX1_beginStaged_11 ?_
  refine lv_aload_n hx hb dX1_beginStaged_14 rfl (lv_at hl 0 rfl) ?_
  refine xp_get S X (ci := 1) m0 f0 rfl hin1 3 (by decide) (by decide +kernel) rfl dX1_beginStaged_15 ?_
  refine lv_iconst (v := 1) hx hb dX1_beginStaged_18 (by decide) ?_
  refine lv_iadd hx hb dX1_beginStaged_19 ?_
  refine hx_ei (show _ = nI (cur + 1) from nI_add (cur) (1)) ?_
  refine lv_aload_n hx hb dX1_beginStaged_20 rfl (lv_at hl 0 rfl) ?_
  refine xp_get S X (ci := 1) m0 f0 rfl hin1 1 (by decide) (by decide +kernel) rfl dX1_beginStaged_21 ?_
  refine lv_aload_n hx hb dX1_beginStaged_24 rfl (lv_at hl 0 rfl) ?_
  refine xp_get S X (ci := 1) m0 f0 rfl hin1 3 (by decide) (by decide +kernel) rfl dX1_beginStaged_25 ?_
  refine xp_ild S X m1 f1 (j := cur) (by omega) (by decide) (x := gf (cur)) (rfl) dX1_beginStaged_28 ?_
  refine xp_ist S X m1 f1 (j := cur + 1) (by omega) (by decide) (x := gf (cur)) dX1_beginStaged_29 (fun H locs X => ?_)
  have k1 : (va_up f (fs) (hAI G 8 (upd (gf) (cur + 1) (gf (cur))))) (h0) = .inr (1, [.int (ty), .ref (fs), .ref (cva), .int (nI (cur)), .int (stg)]) := up_k f1 f0 (by simp)
  have k2 : (va_up f (fs) (hAI G 8 (upd (gf) (cur + 1) (gf (cur))))) (cva) = hAQ G 4 8 (gc) := up_k f1 f2 (by simp)
  have k3 : (va_up f (fs) (hAI G 8 (upd (gf) (cur + 1) (gf (cur))))) (c1) = .inr (2, [.ref (s1), .int (nI (ln))]) := up_k f1 f3 (by simp)
  have k4 : (va_up f (fs) (hAI G 8 (upd (gf) (cur + 1) (gf (cur))))) (fs) = hAI G 8 (upd (gf) (cur + 1) (gf (cur))) := va_up_s _ _ _
  refine lv_aload_n hx hb dX1_beginStaged_30 rfl (lv_at hl 0 rfl) ?_
  refine xp_get S X (ci := 1) m0 k1 rfl hin1 2 (by decide) (by decide +kernel) rfl dX1_beginStaged_31 ?_
  refine lv_aload_n hx hb dX1_beginStaged_34 rfl (lv_at hl 0 rfl) ?_
  refine xp_get S X (ci := 1) m0 k1 rfl hin1 3 (by decide) (by decide +kernel) rfl dX1_beginStaged_35 ?_
  refine lv_iconst (v := 1) hx hb dX1_beginStaged_38 (by decide) ?_
  refine lv_iadd hx hb dX1_beginStaged_39 ?_
  refine hx_ei (show _ = nI (cur + 1) from nI_add (cur) (1)) ?_
  refine xp_ald S X 4 rfl rfl m2 k2 (j := cur + 1) (by omega) (by decide) (x := .ref (c1)) (by rw [hgc]; rfl) dX1_beginStaged_40 ?_
  refine hx_Vv (rest := []) S X (c_X2_clear l G L (va_up f (fs) (hAI G 8 (upd (gf) (cur + 1) (gf (cur))))) (c1) (s1) (nI (ln)) m3 k3) gX1_beginStaged_X2_clear rfl (n := 0) (by decide +kernel) rfl ⟨(Nat.le_of_ble_eq_true rfl), (Nat.le_of_ble_eq_true rfl)⟩ (xp_recv (ci := 2) X rfl m3 k3) hl.1 rfl (Nat.le_of_ble_eq_true rfl) dX1_beginStaged_41 ⟨(Nat.le_of_ble_eq_true rfl), (Nat.le_of_ble_eq_true rfl)⟩ (fun wd1 H locs hp X => ?_)
  obtain rfl := hp
  have k5 : (va_up (va_up f (fs) (hAI G 8 (upd (gf) (cur + 1) (gf (cur))))) (c1) (.inr (2, [.ref (s1), .int ((0 : Int32))]))) (h0) = .inr (1, [.int (ty), .ref (fs), .ref (cva), .int (nI (cur)), .int (stg)]) := up_k k3 k1 (by simp)
  have k6 : (va_up (va_up f (fs) (hAI G 8 (upd (gf) (cur + 1) (gf (cur))))) (c1) (.inr (2, [.ref (s1), .int ((0 : Int32))]))) (cva) = hAQ G 4 8 (gc) := up_k k3 k2 (by simp)
  have k7 : (va_up (va_up f (fs) (hAI G 8 (upd (gf) (cur + 1) (gf (cur))))) (c1) (.inr (2, [.ref (s1), .int ((0 : Int32))]))) (fs) = hAI G 8 (upd (gf) (cur + 1) (gf (cur))) := up_k k3 k4 (by simp)
  have k8 : (va_up (va_up f (fs) (hAI G 8 (upd (gf) (cur + 1) (gf (cur))))) (c1) (.inr (2, [.ref (s1), .int ((0 : Int32))]))) (c1) = .inr (2, [.ref (s1), .int ((0 : Int32))]) := va_up_s _ _ _
  refine lv_aload_n hx hb dX1_beginStaged_44 rfl (lv_at hl 0 rfl) ?_
  refine lv_iconst (v := 1) hx hb dX1_beginStaged_45 (by decide) ?_
  refine xp_put S X (ci := 1) (fs2 := [.int (ty), .ref (fs), .ref (cva), .int (nI (cur)), .int ((1 : Int32))]) tyX1_ok nmX1 m0 k5 rfl hin1 4 (by decide) (by decide +kernel) rfl (by decide) rfl (Nat.le_of_ble_eq_true rfl) rfl dX1_beginStaged_46 (fun H locs X => ?_)
  have k9 : (va_up (va_up (va_up f (fs) (hAI G 8 (upd (gf) (cur + 1) (gf (cur))))) (c1) (.inr (2, [.ref (s1), .int ((0 : Int32))]))) (h0) (.inr (1, [.int (ty), .ref (fs), .ref (cva), .int (nI (cur)), .int ((1 : Int32))]))) (cva) = hAQ G 4 8 (gc) := up_k k5 k6 (by simp)
  have k10 : (va_up (va_up (va_up f (fs) (hAI G 8 (upd (gf) (cur + 1) (gf (cur))))) (c1) (.inr (2, [.ref (s1), .int ((0 : Int32))]))) (h0) (.inr (1, [.int (ty), .ref (fs), .ref (cva), .int (nI (cur)), .int ((1 : Int32))]))) (fs) = hAI G 8 (upd (gf) (cur + 1) (gf (cur))) := up_k k5 k7 (by simp)
  have k11 : (va_up (va_up (va_up f (fs) (hAI G 8 (upd (gf) (cur + 1) (gf (cur))))) (c1) (.inr (2, [.ref (s1), .int ((0 : Int32))]))) (h0) (.inr (1, [.int (ty), .ref (fs), .ref (cva), .int (nI (cur)), .int ((1 : Int32))]))) (c1) = .inr (2, [.ref (s1), .int ((0 : Int32))]) := up_k k5 k8 (by simp)
  have k12 : (va_up (va_up (va_up f (fs) (hAI G 8 (upd (gf) (cur + 1) (gf (cur))))) (c1) (.inr (2, [.ref (s1), .int ((0 : Int32))]))) (h0) (.inr (1, [.int (ty), .ref (fs), .ref (cva), .int (nI (cur)), .int ((1 : Int32))]))) (h0) = .inr (1, [.int (ty), .ref (fs), .ref (cva), .int (nI (cur)), .int ((1 : Int32))]) := va_up_s _ _ _
  refine lv_aload_n hx hb dX1_beginStaged_49 rfl (lv_at hl 0 rfl) ?_
  refine xp_get S X (ci := 1) m0 k12 rfl hin1 3 (by decide) (by decide +kernel) rfl dX1_beginStaged_50 ?_
  refine lv_iconst (v := 1) hx hb dX1_beginStaged_53 (by decide) ?_
  refine lv_iadd hx hb dX1_beginStaged_54 ?_
  refine hx_ei (show _ = nI (cur + 1) from nI_add (cur) (1)) ?_
  exact hx_iret S X hr hlk (Nat.le_of_ble_eq_true rfl) (Nat.le_of_ble_eq_true rfl) ⟨rfl, rfl⟩ dX1_beginStaged_55

set_option maxRecDepth 100000 in
set_option maxHeartbeats 4000000 in
theorem c_X1_activateStaged (l : Launch) (G : hG) (L : List Nat) (f : Nat → va_E) (h0 fs cva cur : Nat) (ty stg : Int32) (m0 : h0 ∈ L) (f0 : f h0 = .inr (1, [.int (ty), .ref (fs), .ref (cva), .int (nI (cur)), .int (stg)])) (h7 : cur < 7) : hMi l G yX1_activateStaged wsX1_activateStaged ({ frames := 1, cells := 0, slots := 0, locals := 20 } : Room) (va_pl L f) [.ref (h0)] (fun r w => r = nI (cur + 1) ∧ w = va_pl L (va_up f h0 (.inr (1, [.int ty, .ref fs, .ref cva, .int (nI (cur + 1)), .int 0])))) := by
  refine hMi.of (cc := cX1_activateStaged) (maxL := 1) (some .int) RX1 rfl (by decide +kernel) rfl (Nat.le_of_ble_eq_true rfl) ?_
  intro p e s m args below meth c S hr hlk X ls hl
  have hx := S.1
  have hb := S.2.1
  have hown := S.2.2.2.1
  have hts := S.2.2.2.2
  have hl : lv_has ls 1 [(0, .ref (h0))] := hl
  have hin1 : ∀ w ∈ wsX10, w ∈ wsX1_activateStaged := by decide +kernel
  refine lv_aload_n hx hb dX1_activateStaged_0 rfl (lv_at hl 0 rfl) ?_
  refine hx_Vi (rest := []) S X (c_X1_isFull l G L f (h0) (fs) (cva) (cur) (ty) (stg) m0 f0 (by omega)) gX1_activateStaged_X1_isFull rfl (n := 0) (by decide +kernel) rfl ⟨(Nat.le_of_ble_eq_true rfl), (Nat.le_of_ble_eq_true rfl)⟩ (xp_recv (ci := 1) X rfl m0 f0) hl.1 rfl (Nat.le_of_ble_eq_true rfl) dX1_activateStaged_1 ⟨(Nat.le_of_ble_eq_true rfl), (Nat.le_of_ble_eq_true rfl)⟩ (fun r wd1 H locs hp X => ?_)
  obtain ⟨hr1, rfl⟩ := hp
  refine hx_ei (hr1.2 (by omega)) ?_
  refine lv_if_ne (tgt := 17) hx hb dX1_activateStaged_4 (by decide) (fun c9 => absurd (by decide) c9) (fun _ => ?_)
  refine lv_aload_n hx hb dX1_activateStaged_7 rfl (lv_at hl 0 rfl) ?_
  refine lv_dup hx hb dX1_activateStaged_8 rfl ?_
  refine xp_get S X (ci := 1) m0 f0 rfl hin1 3 (by decide) (by decide +kernel) rfl dX1_activateStaged_9 ?_
  refine lv_iconst (v := 1) hx hb dX1_activateStaged_12 (by decide) ?_
  refine lv_iadd hx hb dX1_activateStaged_13 ?_
  refine hx_ei (show _ = nI (cur + 1) from nI_add (cur) (1)) ?_
  refine xp_put S X (ci := 1) (fs2 := [.int (ty), .ref (fs), .ref (cva), .int (nI (cur + 1)), .int (stg)]) tyX1_ok nmX1 m0 f0 rfl hin1 3 (by decide) (by decide +kernel) rfl rfl rfl (Nat.le_of_ble_eq_true rfl) rfl dX1_activateStaged_14 (fun H locs X => ?_)
  have k1 : (va_up f (h0) (.inr (1, [.int (ty), .ref (fs), .ref (cva), .int (nI (cur + 1)), .int (stg)]))) (h0) = .inr (1, [.int (ty), .ref (fs), .ref (cva), .int (nI (cur + 1)), .int (stg)]) := va_up_s _ _ _
  refine lv_aload_n hx hb dX1_activateStaged_17 rfl (lv_at hl 0 rfl) ?_
  refine lv_iconst (v := 0) hx hb dX1_activateStaged_18 (by decide) ?_
  refine xp_put S X (ci := 1) (fs2 := [.int (ty), .ref (fs), .ref (cva), .int (nI (cur + 1)), .int ((0 : Int32))]) tyX1_ok nmX1 m0 k1 rfl hin1 4 (by decide) (by decide +kernel) rfl (by decide) rfl (Nat.le_of_ble_eq_true rfl) rfl dX1_activateStaged_19 (fun H locs X => ?_)
  have k2 : (va_up (va_up f (h0) (.inr (1, [.int (ty), .ref (fs), .ref (cva), .int (nI (cur + 1)), .int (stg)]))) (h0) (.inr (1, [.int (ty), .ref (fs), .ref (cva), .int (nI (cur + 1)), .int ((0 : Int32))]))) (h0) = .inr (1, [.int (ty), .ref (fs), .ref (cva), .int (nI (cur + 1)), .int ((0 : Int32))]) := va_up_s _ _ _
  refine lv_aload_n hx hb dX1_activateStaged_22 rfl (lv_at hl 0 rfl) ?_
  refine xp_get S X (ci := 1) m0 k2 rfl hin1 3 (by decide) (by decide +kernel) rfl dX1_activateStaged_23 ?_
  exact hx_iret S X hr hlk (Nat.le_of_ble_eq_true rfl) (Nat.le_of_ble_eq_true rfl) ⟨rfl, by rw [up_up]⟩ dX1_activateStaged_26

set_option maxRecDepth 100000 in
set_option maxHeartbeats 4000000 in
theorem c_X1_discardStaged (l : Launch) (G : hG) (L : List Nat) (f : Nat → va_E) (h0 fs cva c1 s1 cur ln : Nat) (ty stg : Int32) (gc : Nat → Option Nat) (m0 : h0 ∈ L) (f0 : f h0 = .inr (1, [.int (ty), .ref (fs), .ref (cva), .int (nI (cur)), .int (stg)])) (m2 : cva ∈ L) (f2 : f cva = hAQ G 4 8 (gc)) (m3 : c1 ∈ L) (f3 : f c1 = .inr (2, [.ref (s1), .int (nI (ln))])) (h7 : cur < 7) (hgc : gc (cur + 1) = some c1) : hMi l G yX1_discardStaged wsX1_discardStaged ({ frames := 1, cells := 0, slots := 0, locals := 20 } : Room) (va_pl L f) [.ref (h0)] (fun r w => r = nI ln ∧ w = va_pl L (va_up f h0 (.inr (1, [.int ty, .ref fs, .ref cva, .int (nI cur), .int 0])))) := by
  refine hMi.of (cc := cX1_discardStaged) (maxL := 1) (some .int) RX1 rfl (by decide +kernel) rfl (Nat.le_of_ble_eq_true rfl) ?_
  intro p e s m args below meth c S hr hlk X ls hl
  have hx := S.1
  have hb := S.2.1
  have hown := S.2.2.2.1
  have hts := S.2.2.2.2
  have hl : lv_has ls 1 [(0, .ref (h0))] := hl
  have hin1 : ∀ w ∈ wsX10, w ∈ wsX1_discardStaged := by decide +kernel
  have hin2 : ∀ w ∈ wsX20, w ∈ wsX1_discardStaged := by decide +kernel
  refine lv_aload_n hx hb dX1_discardStaged_0 rfl (lv_at hl 0 rfl) ?_
  refine lv_iconst (v := 0) hx hb dX1_discardStaged_1 (by decide) ?_
  refine xp_put S X (ci := 1) (fs2 := [.int (ty), .ref (fs), .ref (cva), .int (nI (cur)), .int ((0 : Int32))]) tyX1_ok nmX1 m0 f0 rfl hin1 4 (by decide) (by decide +kernel) rfl (by decide) rfl (Nat.le_of_ble_eq_true rfl) rfl dX1_discardStaged_2 (fun H locs X => ?_)
  have k1 : (va_up f (h0) (.inr (1, [.int (ty), .ref (fs), .ref (cva), .int (nI (cur)), .int ((0 : Int32))]))) (cva) = hAQ G 4 8 (gc) := up_k f0 f2 (by simp)
  have k2 : (va_up f (h0) (.inr (1, [.int (ty), .ref (fs), .ref (cva), .int (nI (cur)), .int ((0 : Int32))]))) (c1) = .inr (2, [.ref (s1), .int (nI (ln))]) := up_k f0 f3 (by simp)
  have k3 : (va_up f (h0) (.inr (1, [.int (ty), .ref (fs), .ref (cva), .int (nI (cur)), .int ((0 : Int32))]))) (h0) = .inr (1, [.int (ty), .ref (fs), .ref (cva), .int (nI (cur)), .int ((0 : Int32))]) := va_up_s _ _ _
  refine lv_aload_n hx hb dX1_discardStaged_5 rfl (lv_at hl 0 rfl) ?_
  refine hx_Vi (rest := []) S X (c_X1_isFull l G L (va_up f (h0) (.inr (1, [.int (ty), .ref (fs), .ref (cva), .int (nI (cur)), .int ((0 : Int32))]))) (h0) (fs) (cva) (cur) (ty) ((0 : Int32)) m0 k3 (by omega)) gX1_discardStaged_X1_isFull rfl (n := 0) (by decide +kernel) rfl ⟨(Nat.le_of_ble_eq_true rfl), (Nat.le_of_ble_eq_true rfl)⟩ (xp_recv (ci := 1) X rfl m0 k3) hl.1 rfl (Nat.le_of_ble_eq_true rfl) dX1_discardStaged_6 ⟨(Nat.le_of_ble_eq_true rfl), (Nat.le_of_ble_eq_true rfl)⟩ (fun r wd1 H locs hp X => ?_)
  obtain ⟨hr6, rfl⟩ := hp
  refine hx_ei (hr6.2 (by omega)) ?_
  refine lv_if_eq (tgt := 14) hx hb dX1_discardStaged_9 (by decide) (fun _ => ?_) (fun c9 => absurd (by decide) c9)
  refine lv_aload_n hx hb dX1_discardStaged_14 rfl (lv_at hl 0 rfl) ?_
  refine xp_get S X (ci := 1) m0 k3 rfl hin1 2 (by decide) (by decide +kernel) rfl dX1_discardStaged_15 ?_
  refine lv_aload_n hx hb dX1_discardStaged_18 rfl (lv_at hl 0 rfl) ?_
  refine xp_get S X (ci := 1) m0 k3 rfl hin1 3 (by decide) (by decide +kernel) rfl dX1_discardStaged_19 ?_
  refine lv_iconst (v := 1) hx hb dX1_discardStaged_22 (by decide) ?_
  refine lv_iadd hx hb dX1_discardStaged_23 ?_
  refine hx_ei (show _ = nI (cur + 1) from nI_add (cur) (1)) ?_
  refine xp_ald S X 4 rfl rfl m2 k1 (j := cur + 1) (by omega) (by decide) (x := .ref (c1)) (by rw [hgc]; rfl) dX1_discardStaged_24 ?_
  refine xp_getN (host := RX6) S X (ci := 2) m3 k2 rfl hin2 1 (by decide) (by decide +kernel) rfl dX1_discardStaged_25 ?_
  exact hx_iret S X hr hlk (Nat.le_of_ble_eq_true rfl) (Nat.le_of_ble_eq_true rfl) ⟨rfl, rfl⟩ dX1_discardStaged_28

set_option maxRecDepth 100000 in
set_option maxHeartbeats 4000000 in
theorem c_X1_removeCurrent (l : Launch) (G : hG) (L : List Nat) (f : Nat → va_E) (h0 fs cva cur : Nat) (ty stg : Int32) (m0 : h0 ∈ L) (f0 : f h0 = .inr (1, [.int (ty), .ref (fs), .ref (cva), .int (nI (cur)), .int (stg)])) (h7 : 0 < cur ∧ cur < 8) : hMi l G yX1_removeCurrent wsX1_removeCurrent ({ frames := 0, cells := 0, slots := 0, locals := 0 } : Room) (va_pl L f) [.ref (h0)] (fun r w => r = nI (cur - 1) ∧ w = va_pl L (va_up f h0 (.inr (1, [.int ty, .ref fs, .ref cva, .int (nI (cur - 1)), .int 0])))) := by
  refine hMi.of (cc := cX1_removeCurrent) (maxL := 1) (some .int) RX1 rfl (by decide +kernel) rfl (Nat.le_of_ble_eq_true rfl) ?_
  intro p e s m args below meth c S hr hlk X ls hl
  have hx := S.1
  have hb := S.2.1
  have hown := S.2.2.2.1
  have hts := S.2.2.2.2
  have hl : lv_has ls 1 [(0, .ref (h0))] := hl
  have hin1 : ∀ w ∈ wsX10, w ∈ wsX1_removeCurrent := by decide +kernel
  refine lv_aload_n hx hb dX1_removeCurrent_0 rfl (lv_at hl 0 rfl) ?_
  refine xp_get S X (ci := 1) m0 f0 rfl hin1 3 (by decide) (by decide +kernel) rfl dX1_removeCurrent_1 ?_
  refine lv_if_le (tgt := 17) hx hb dX1_removeCurrent_4 (by decide) (fun c9 => absurd c9 (nI_nle (n := cur) (by omega) (by omega))) (fun _ => ?_)
  refine lv_aload_n hx hb dX1_removeCurrent_7 rfl (lv_at hl 0 rfl) ?_
  refine lv_dup hx hb dX1_removeCurrent_8 rfl ?_
  refine xp_get S X (ci := 1) m0 f0 rfl hin1 3 (by decide) (by decide +kernel) rfl dX1_removeCurrent_9 ?_
  refine lv_iconst (v := 1) hx hb dX1_removeCurrent_12 (by decide) ?_
  refine lv_isub hx hb dX1_removeCurrent_13 ?_
  refine hx_ei (show _ = nI ((cur) - (1)) from pk_sub (a := cur) (b := 1) (by omega)) ?_
  refine xp_put S X (ci := 1) (fs2 := [.int (ty), .ref (fs), .ref (cva), .int (nI ((cur) - (1))), .int (stg)]) tyX1_ok nmX1 m0 f0 rfl hin1 3 (by decide) (by decide +kernel) rfl rfl rfl (Nat.le_of_ble_eq_true rfl) rfl dX1_removeCurrent_14 (fun H locs X => ?_)
  have k1 : (va_up f (h0) (.inr (1, [.int (ty), .ref (fs), .ref (cva), .int (nI ((cur) - (1))), .int (stg)]))) (h0) = .inr (1, [.int (ty), .ref (fs), .ref (cva), .int (nI ((cur) - (1))), .int (stg)]) := va_up_s _ _ _
  refine lv_aload_n hx hb dX1_removeCurrent_17 rfl (lv_at hl 0 rfl) ?_
  refine lv_iconst (v := 0) hx hb dX1_removeCurrent_18 (by decide) ?_
  refine xp_put S X (ci := 1) (fs2 := [.int (ty), .ref (fs), .ref (cva), .int (nI ((cur) - (1))), .int ((0 : Int32))]) tyX1_ok nmX1 m0 k1 rfl hin1 4 (by decide) (by decide +kernel) rfl (by decide) rfl (Nat.le_of_ble_eq_true rfl) rfl dX1_removeCurrent_19 (fun H locs X => ?_)
  have k2 : (va_up (va_up f (h0) (.inr (1, [.int (ty), .ref (fs), .ref (cva), .int (nI ((cur) - (1))), .int (stg)]))) (h0) (.inr (1, [.int (ty), .ref (fs), .ref (cva), .int (nI ((cur) - (1))), .int ((0 : Int32))]))) (h0) = .inr (1, [.int (ty), .ref (fs), .ref (cva), .int (nI ((cur) - (1))), .int ((0 : Int32))]) := va_up_s _ _ _
  refine lv_aload_n hx hb dX1_removeCurrent_22 rfl (lv_at hl 0 rfl) ?_
  refine xp_get S X (ci := 1) m0 k2 rfl hin1 3 (by decide) (by decide +kernel) rfl dX1_removeCurrent_23 ?_
  exact hx_iret S X hr hlk (Nat.le_of_ble_eq_true rfl) (Nat.le_of_ble_eq_true rfl) ⟨rfl, by rw [up_up]⟩ dX1_removeCurrent_26

set_option maxRecDepth 100000 in
set_option maxHeartbeats 4000000 in
theorem c_X1_append (l : Launch) (G : hG) (L : List Nat) (f : Nat → va_E) (h0 fs cva c1 s1 cur ln : Nat) (ty stg ka fa oa : Int32) (gf : Nat → Int32) (gc g1 : Nat → Option Nat) (m0 : h0 ∈ L) (f0 : f h0 = .inr (1, [.int (ty), .ref (fs), .ref (cva), .int (nI (cur)), .int (stg)])) (m1 : fs ∈ L) (f1 : f fs = hAI G 8 (gf)) (m2 : cva ∈ L) (f2 : f cva = hAQ G 4 8 (gc)) (m3 : c1 ∈ L) (f3 : f c1 = .inr (2, [.ref (s1), .int (nI (ln))])) (m4 : s1 ∈ L) (f4 : f s1 = hAQ G 6 6 (g1)) (h7 : cur < 7) (hgc : gc (cur + 1) = some c1) (hl6 : ln ≤ 6) (hok : okSt ka fa oa) : hMi l G yX1_append wsX1_append ({ frames := 2, cells := 1, slots := 3, locals := 43 } : Room) (va_pl L f) [.ref (h0), .int (ka), .int (fa), .int (oa)] (fun r w => (ln = 6 → r = -2000010 ∧ w = va_pl L f) ∧ (ln < 6 → r = nI (ln + 1) ∧ ∃ q, q ∉ L ∧ w = va_pl (L ++ [q]) (va_up (va_up (va_up (va_up f q (.inr (4, [.int ka, .int fa, .int oa]))) fs (hAI G 8 (upd gf (cur + 1) (chS ka fa oa (gf (cur + 1)))))) s1 (hAQ G 6 6 (va_up g1 ln (some q)))) c1 (.inr (2, [.ref s1, .int (nI (ln + 1))]))))) := by
  refine hMi.of (cc := cX1_append) (maxL := 5) (some .int) RX1 rfl (by decide +kernel) rfl (Nat.le_of_ble_eq_true rfl) ?_
  intro p e s m args below meth c S hr hlk X ls hl
  have hx := S.1
  have hb := S.2.1
  have hown := S.2.2.2.1
  have hts := S.2.2.2.2
  have hl : lv_has ls 5 [(0, .ref (h0)), (1, .int (ka)), (2, .int (fa)), (3, .int (oa))] := hl
  have hin1 : ∀ w ∈ wsX10, w ∈ wsX1_append := by decide +kernel
  have hin2 : ∀ w ∈ wsX20, w ∈ wsX1_append := by decide +kernel
  have hin4 : ∀ w ∈ wsX40, w ∈ wsX1_append := by decide +kernel
  refine lv_aload_n hx hb dX1_append_0 rfl (lv_at hl 0 rfl) ?_
  refine hx_Vi (rest := []) S X (c_X1_isFull l G L f (h0) (fs) (cva) (cur) (ty) (stg) m0 f0 (by omega)) gX1_append_X1_isFull rfl (n := 0) (by decide +kernel) rfl ⟨(Nat.le_of_ble_eq_true rfl), (Nat.le_of_ble_eq_true rfl)⟩ (xp_recv (ci := 1) X rfl m0 f0) hl.1 rfl (Nat.le_of_ble_eq_true rfl) dX1_append_1 ⟨(Nat.le_of_ble_eq_true rfl), (Nat.le_of_ble_eq_true rfl)⟩ (fun r wd1 H locs hp X => ?_)
  obtain ⟨hr1, rfl⟩ := hp
  refine hx_ei (hr1.2 (by omega)) ?_
  refine lv_if_ne (tgt := 24) hx hb dX1_append_4 (by decide) (fun c9 => absurd (by decide) c9) (fun _ => ?_)
  refine lv_aload_n hx hb dX1_append_7 rfl (lv_at hl 0 rfl) ?_
  refine xp_get S X (ci := 1) m0 f0 rfl hin1 2 (by decide) (by decide +kernel) rfl dX1_append_8 ?_
  refine lv_aload_n hx hb dX1_append_11 rfl (lv_at hl 0 rfl) ?_
  refine xp_get S X (ci := 1) m0 f0 rfl hin1 3 (by decide) (by decide +kernel) rfl dX1_append_12 ?_
  refine lv_iconst (v := 1) hx hb dX1_append_15 (by decide) ?_
  refine lv_iadd hx hb dX1_append_16 ?_
  refine hx_ei (show _ = nI (cur + 1) from nI_add (cur) (1)) ?_
  refine xp_ald S X 4 rfl rfl m2 f2 (j := cur + 1) (by omega) (by decide) (x := .ref (c1)) (by rw [hgc]; rfl) dX1_append_17 ?_
  refine hx_Vi (rest := []) S X (c_X2_isFull l G L f (c1) (s1) (ln) m3 f3 (by omega)) gX1_append_X2_isFull rfl (n := 0) (by decide +kernel) rfl ⟨(Nat.le_of_ble_eq_true rfl), (Nat.le_of_ble_eq_true rfl)⟩ (xp_recv (ci := 2) X rfl m3 f3) hl.1 rfl (Nat.le_of_ble_eq_true rfl) dX1_append_18 ⟨(Nat.le_of_ble_eq_true rfl), (Nat.le_of_ble_eq_true rfl)⟩ (fun r wd1 H locs hp X => ?_)
  obtain ⟨hr18, rfl⟩ := hp
  by_cases h18 : 6 ≤ ln
  · skip
    refine hx_ei (hr18.1 h18) ?_
    refine lv_if_eq (tgt := 27) hx hb dX1_append_21 (by decide) (fun c9 => absurd c9 (by decide)) (fun _ => ?_)
    refine lv_ldc (v := -2000010) hx hb hown (hts (Cond.constant RX1 37 (-2000010)) (by decide +kernel)) dX1_append_24 ?_
    exact hx_iret S X hr hlk (Nat.le_of_ble_eq_true rfl) (Nat.le_of_ble_eq_true rfl) ⟨fun _ => ⟨rfl, rfl⟩, fun q => by omega⟩ dX1_append_26
  · skip
    refine hx_ei (hr18.2 h18) ?_
    refine lv_if_eq (tgt := 27) hx hb dX1_append_21 (by decide) (fun _ => ?_) (fun c9 => absurd (by decide) c9)
    refine xp_new S X (ci := 4) (fs := [.int ((0 : Int32)), .int ((0 : Int32)), .int ((0 : Int32))]) tyX4_ok rfl hin4 (by decide +kernel) (by decide +kernel) (by decide +kernel) (fun j hj => by rcases (show j = 0 ∨ j = 1 ∨ j = 2 by omega) with rfl | rfl | rfl <;> rfl) (Nat.le_of_ble_eq_true rfl) (Nat.le_of_ble_eq_true rfl) dX1_append_27 (fun q1 H hq1 X => ?_)
    have k2 : (va_up f (q1) (.inr (4, [.int ((0 : Int32)), .int ((0 : Int32)), .int ((0 : Int32))]))) (h0) = .inr (1, [.int (ty), .ref (fs), .ref (cva), .int (nI (cur)), .int (stg)]) := up_n f0 (fun q => hq1 (q ▸ m0))
    have k3 : (va_up f (q1) (.inr (4, [.int ((0 : Int32)), .int ((0 : Int32)), .int ((0 : Int32))]))) (fs) = hAI G 8 (gf) := up_n f1 (fun q => hq1 (q ▸ m1))
    have k4 : (va_up f (q1) (.inr (4, [.int ((0 : Int32)), .int ((0 : Int32)), .int ((0 : Int32))]))) (cva) = hAQ G 4 8 (gc) := up_n f2 (fun q => hq1 (q ▸ m2))
    have k5 : (va_up f (q1) (.inr (4, [.int ((0 : Int32)), .int ((0 : Int32)), .int ((0 : Int32))]))) (c1) = .inr (2, [.ref (s1), .int (nI (ln))]) := up_n f3 (fun q => hq1 (q ▸ m3))
    have k6 : (va_up f (q1) (.inr (4, [.int ((0 : Int32)), .int ((0 : Int32)), .int ((0 : Int32))]))) (s1) = hAQ G 6 6 (g1) := up_n f4 (fun q => hq1 (q ▸ m4))
    have k7 : (va_up f (q1) (.inr (4, [.int ((0 : Int32)), .int ((0 : Int32)), .int ((0 : Int32))]))) (q1) = .inr (4, [.int ((0 : Int32)), .int ((0 : Int32)), .int ((0 : Int32))]) := va_up_s _ _ _
    refine lv_dup hx hb dX1_append_30 rfl ?_
    refine lv_iload_n hx hb dX1_append_31 rfl (lv_at hl 1 rfl) ?_
    refine lv_iload_n hx hb dX1_append_32 rfl (lv_at hl 2 rfl) ?_
    refine lv_iload_n hx hb dX1_append_33 rfl (lv_at hl 3 rfl) ?_
    refine hx_Iv (rest := [.ref (q1)]) S X (c_X4_init l G (L ++ [q1]) (va_up f (q1) (.inr (4, [.int ((0 : Int32)), .int ((0 : Int32)), .int ((0 : Int32))]))) (q1) (ka) (fa) (oa) (List.mem_append_right _ (List.mem_singleton.mpr rfl)) k7) gX1_append_X4_init rfl (by decide +kernel) (by decide +kernel) (by decide +kernel) rfl (n := 3) (by decide +kernel) rfl ⟨(Nat.le_of_ble_eq_true rfl), (Nat.le_of_ble_eq_true rfl)⟩ hl.1 rfl (Nat.le_of_ble_eq_true rfl) dX1_append_34 ⟨(Nat.le_of_ble_eq_true rfl), (Nat.le_of_ble_eq_true rfl)⟩ (fun wd1 H locs hp X => ?_)
    obtain rfl := hp
    have k8 : (va_up (va_up f (q1) (.inr (4, [.int ((0 : Int32)), .int ((0 : Int32)), .int ((0 : Int32))]))) (q1) (.inr (4, [.int (ka), .int (fa), .int (oa)]))) (h0) = .inr (1, [.int (ty), .ref (fs), .ref (cva), .int (nI (cur)), .int (stg)]) := up_k k7 k2 (by simp)
    have k9 : (va_up (va_up f (q1) (.inr (4, [.int ((0 : Int32)), .int ((0 : Int32)), .int ((0 : Int32))]))) (q1) (.inr (4, [.int (ka), .int (fa), .int (oa)]))) (fs) = hAI G 8 (gf) := up_k k7 k3 (by simp)
    have k10 : (va_up (va_up f (q1) (.inr (4, [.int ((0 : Int32)), .int ((0 : Int32)), .int ((0 : Int32))]))) (q1) (.inr (4, [.int (ka), .int (fa), .int (oa)]))) (cva) = hAQ G 4 8 (gc) := up_k k7 k4 (by simp)
    have k11 : (va_up (va_up f (q1) (.inr (4, [.int ((0 : Int32)), .int ((0 : Int32)), .int ((0 : Int32))]))) (q1) (.inr (4, [.int (ka), .int (fa), .int (oa)]))) (c1) = .inr (2, [.ref (s1), .int (nI (ln))]) := up_k k7 k5 (by simp)
    have k12 : (va_up (va_up f (q1) (.inr (4, [.int ((0 : Int32)), .int ((0 : Int32)), .int ((0 : Int32))]))) (q1) (.inr (4, [.int (ka), .int (fa), .int (oa)]))) (s1) = hAQ G 6 6 (g1) := up_k k7 k6 (by simp)
    have k13 : (va_up (va_up f (q1) (.inr (4, [.int ((0 : Int32)), .int ((0 : Int32)), .int ((0 : Int32))]))) (q1) (.inr (4, [.int (ka), .int (fa), .int (oa)]))) (q1) = .inr (4, [.int (ka), .int (fa), .int (oa)]) := va_up_s _ _ _
    refine lv_astore (lv' := [(4, .ref (q1)), (0, .ref (h0)), (1, .int (ka)), (2, .int (fa)), (3, .int (oa))]) hx hb dX1_append_37 hl (by decide) rfl (fun ls hl => ?_)
    refine lv_aload_n hx hb dX1_append_39 rfl (lv_at hl 1 rfl) ?_
    refine xp_get S X (ci := 1) (List.mem_append_left _ m0) k8 rfl hin1 1 (by decide) (by decide +kernel) rfl dX1_append_40 ?_
    refine lv_aload_n hx hb dX1_append_43 rfl (lv_at hl 1 rfl) ?_
    refine xp_get S X (ci := 1) (List.mem_append_left _ m0) k8 rfl hin1 3 (by decide) (by decide +kernel) rfl dX1_append_44 ?_
    refine lv_iconst (v := 1) hx hb dX1_append_47 (by decide) ?_
    refine lv_iadd hx hb dX1_append_48 ?_
    refine hx_ei (show _ = nI (cur + 1) from nI_add (cur) (1)) ?_
    refine lv_aload hx hb dX1_append_49 (lv_at hl 0 rfl) ?_
    refine lv_aload_n hx hb dX1_append_51 rfl (lv_at hl 1 rfl) ?_
    refine xp_get S X (ci := 1) (List.mem_append_left _ m0) k8 rfl hin1 1 (by decide) (by decide +kernel) rfl dX1_append_52 ?_
    refine lv_aload_n hx hb dX1_append_55 rfl (lv_at hl 1 rfl) ?_
    refine xp_get S X (ci := 1) (List.mem_append_left _ m0) k8 rfl hin1 3 (by decide) (by decide +kernel) rfl dX1_append_56 ?_
    refine lv_iconst (v := 1) hx hb dX1_append_59 (by decide) ?_
    refine lv_iadd hx hb dX1_append_60 ?_
    refine hx_ei (show _ = nI (cur + 1) from nI_add (cur) (1)) ?_
    refine xp_ild S X (List.mem_append_left _ m1) k9 (j := cur + 1) (by omega) (by decide) (x := gf (cur + 1)) (rfl) dX1_append_61 ?_
    refine hx_Vi (rest := [.int (nI (cur + 1)), .ref (fs)]) S X (c_X4_changedSet l G (L ++ [q1]) (va_up (va_up f (q1) (.inr (4, [.int ((0 : Int32)), .int ((0 : Int32)), .int ((0 : Int32))]))) (q1) (.inr (4, [.int (ka), .int (fa), .int (oa)]))) (q1) (ka) (fa) (oa) (gf (cur + 1)) (List.mem_append_right _ (List.mem_singleton.mpr rfl)) k13 hok) gX1_append_X4_changedSet rfl (n := 1) (by decide +kernel) rfl ⟨(Nat.le_of_ble_eq_true rfl), (Nat.le_of_ble_eq_true rfl)⟩ (xp_recv (ci := 4) X rfl (List.mem_append_right _ (List.mem_singleton.mpr rfl)) k13) hl.1 rfl (Nat.le_of_ble_eq_true rfl) dX1_append_62 ⟨(Nat.le_of_ble_eq_true rfl), (Nat.le_of_ble_eq_true rfl)⟩ (fun r wd1 H locs hp X => ?_)
    obtain ⟨rfl, rfl⟩ := hp
    refine xp_ist S X (List.mem_append_left _ m1) k9 (j := cur + 1) (by omega) (by decide) (x := chS (ka) (fa) (oa) (gf (cur + 1))) dX1_append_65 (fun H locs X => ?_)
    have k14 : (va_up (va_up (va_up f (q1) (.inr (4, [.int ((0 : Int32)), .int ((0 : Int32)), .int ((0 : Int32))]))) (q1) (.inr (4, [.int (ka), .int (fa), .int (oa)]))) (fs) (hAI G 8 (upd (gf) (cur + 1) (chS (ka) (fa) (oa) (gf (cur + 1)))))) (h0) = .inr (1, [.int (ty), .ref (fs), .ref (cva), .int (nI (cur)), .int (stg)]) := up_k k9 k8 (by simp)
    have k15 : (va_up (va_up (va_up f (q1) (.inr (4, [.int ((0 : Int32)), .int ((0 : Int32)), .int ((0 : Int32))]))) (q1) (.inr (4, [.int (ka), .int (fa), .int (oa)]))) (fs) (hAI G 8 (upd (gf) (cur + 1) (chS (ka) (fa) (oa) (gf (cur + 1)))))) (cva) = hAQ G 4 8 (gc) := up_k k9 k10 (by simp)
    have k16 : (va_up (va_up (va_up f (q1) (.inr (4, [.int ((0 : Int32)), .int ((0 : Int32)), .int ((0 : Int32))]))) (q1) (.inr (4, [.int (ka), .int (fa), .int (oa)]))) (fs) (hAI G 8 (upd (gf) (cur + 1) (chS (ka) (fa) (oa) (gf (cur + 1)))))) (c1) = .inr (2, [.ref (s1), .int (nI (ln))]) := up_k k9 k11 (by simp)
    have k17 : (va_up (va_up (va_up f (q1) (.inr (4, [.int ((0 : Int32)), .int ((0 : Int32)), .int ((0 : Int32))]))) (q1) (.inr (4, [.int (ka), .int (fa), .int (oa)]))) (fs) (hAI G 8 (upd (gf) (cur + 1) (chS (ka) (fa) (oa) (gf (cur + 1)))))) (s1) = hAQ G 6 6 (g1) := up_k k9 k12 (by simp)
    have k18 : (va_up (va_up (va_up f (q1) (.inr (4, [.int ((0 : Int32)), .int ((0 : Int32)), .int ((0 : Int32))]))) (q1) (.inr (4, [.int (ka), .int (fa), .int (oa)]))) (fs) (hAI G 8 (upd (gf) (cur + 1) (chS (ka) (fa) (oa) (gf (cur + 1)))))) (q1) = .inr (4, [.int (ka), .int (fa), .int (oa)]) := up_k k9 k13 (by simp)
    have k19 : (va_up (va_up (va_up f (q1) (.inr (4, [.int ((0 : Int32)), .int ((0 : Int32)), .int ((0 : Int32))]))) (q1) (.inr (4, [.int (ka), .int (fa), .int (oa)]))) (fs) (hAI G 8 (upd (gf) (cur + 1) (chS (ka) (fa) (oa) (gf (cur + 1)))))) (fs) = hAI G 8 (upd (gf) (cur + 1) (chS (ka) (fa) (oa) (gf (cur + 1)))) := va_up_s _ _ _
    refine lv_aload_n hx hb dX1_append_66 rfl (lv_at hl 1 rfl) ?_
    refine xp_get S X (ci := 1) (List.mem_append_left _ m0) k14 rfl hin1 2 (by decide) (by decide +kernel) rfl dX1_append_67 ?_
    refine lv_aload_n hx hb dX1_append_70 rfl (lv_at hl 1 rfl) ?_
    refine xp_get S X (ci := 1) (List.mem_append_left _ m0) k14 rfl hin1 3 (by decide) (by decide +kernel) rfl dX1_append_71 ?_
    refine lv_iconst (v := 1) hx hb dX1_append_74 (by decide) ?_
    refine lv_iadd hx hb dX1_append_75 ?_
    refine hx_ei (show _ = nI (cur + 1) from nI_add (cur) (1)) ?_
    refine xp_ald S X 4 rfl rfl (List.mem_append_left _ m2) k15 (j := cur + 1) (by omega) (by decide) (x := .ref (c1)) (by rw [hgc]; rfl) dX1_append_76 ?_
    refine lv_aload hx hb dX1_append_77 (lv_at hl 0 rfl) ?_
    refine hx_Vi (rest := []) S X (c_X2_append l G (L ++ [q1]) (va_up (va_up (va_up f (q1) (.inr (4, [.int ((0 : Int32)), .int ((0 : Int32)), .int ((0 : Int32))]))) (q1) (.inr (4, [.int (ka), .int (fa), .int (oa)]))) (fs) (hAI G 8 (upd (gf) (cur + 1) (chS (ka) (fa) (oa) (gf (cur + 1)))))) (c1) (s1) (ln) (q1) (g1) (.int (ka)) (.int (fa)) (.int (oa)) (List.mem_append_left _ m3) k16 (List.mem_append_left _ m4) k17 (List.mem_append_right _ (List.mem_singleton.mpr rfl)) k18 (by omega)) gX1_append_X2_append rfl (n := 1) (by decide +kernel) rfl ⟨(Nat.le_of_ble_eq_true rfl), (Nat.le_of_ble_eq_true rfl)⟩ (xp_recv (ci := 2) X rfl (List.mem_append_left _ m3) k16) hl.1 rfl (Nat.le_of_ble_eq_true rfl) dX1_append_79 ⟨(Nat.le_of_ble_eq_true rfl), (Nat.le_of_ble_eq_true rfl)⟩ (fun r wd1 H locs hp X => ?_)
    obtain ⟨-, hp⟩ := hp
    obtain ⟨rfl, rfl⟩ := hp (by omega)
    have k20 : (va_up (va_up (va_up (va_up f (q1) (.inr (4, [.int ((0 : Int32)), .int ((0 : Int32)), .int ((0 : Int32))]))) (q1) (.inr (4, [.int (ka), .int (fa), .int (oa)]))) (fs) (hAI G 8 (upd (gf) (cur + 1) (chS (ka) (fa) (oa) (gf (cur + 1)))))) (s1) (hAQ G 6 6 (va_up (g1) (ln) (some q1)))) (h0) = .inr (1, [.int (ty), .ref (fs), .ref (cva), .int (nI (cur)), .int (stg)]) := up_k k17 k14 (by simp)
    have k21 : (va_up (va_up (va_up (va_up f (q1) (.inr (4, [.int ((0 : Int32)), .int ((0 : Int32)), .int ((0 : Int32))]))) (q1) (.inr (4, [.int (ka), .int (fa), .int (oa)]))) (fs) (hAI G 8 (upd (gf) (cur + 1) (chS (ka) (fa) (oa) (gf (cur + 1)))))) (s1) (hAQ G 6 6 (va_up (g1) (ln) (some q1)))) (cva) = hAQ G 4 8 (gc) := up_k k17 k15 (by simp)
    have k22 : (va_up (va_up (va_up (va_up f (q1) (.inr (4, [.int ((0 : Int32)), .int ((0 : Int32)), .int ((0 : Int32))]))) (q1) (.inr (4, [.int (ka), .int (fa), .int (oa)]))) (fs) (hAI G 8 (upd (gf) (cur + 1) (chS (ka) (fa) (oa) (gf (cur + 1)))))) (s1) (hAQ G 6 6 (va_up (g1) (ln) (some q1)))) (c1) = .inr (2, [.ref (s1), .int (nI (ln))]) := up_k k17 k16 (by simp)
    have k23 : (va_up (va_up (va_up (va_up f (q1) (.inr (4, [.int ((0 : Int32)), .int ((0 : Int32)), .int ((0 : Int32))]))) (q1) (.inr (4, [.int (ka), .int (fa), .int (oa)]))) (fs) (hAI G 8 (upd (gf) (cur + 1) (chS (ka) (fa) (oa) (gf (cur + 1)))))) (s1) (hAQ G 6 6 (va_up (g1) (ln) (some q1)))) (q1) = .inr (4, [.int (ka), .int (fa), .int (oa)]) := up_k k17 k18 (by simp)
    have k24 : (va_up (va_up (va_up (va_up f (q1) (.inr (4, [.int ((0 : Int32)), .int ((0 : Int32)), .int ((0 : Int32))]))) (q1) (.inr (4, [.int (ka), .int (fa), .int (oa)]))) (fs) (hAI G 8 (upd (gf) (cur + 1) (chS (ka) (fa) (oa) (gf (cur + 1)))))) (s1) (hAQ G 6 6 (va_up (g1) (ln) (some q1)))) (fs) = hAI G 8 (upd (gf) (cur + 1) (chS (ka) (fa) (oa) (gf (cur + 1)))) := up_k k17 k19 (by simp)
    have k25 : (va_up (va_up (va_up (va_up f (q1) (.inr (4, [.int ((0 : Int32)), .int ((0 : Int32)), .int ((0 : Int32))]))) (q1) (.inr (4, [.int (ka), .int (fa), .int (oa)]))) (fs) (hAI G 8 (upd (gf) (cur + 1) (chS (ka) (fa) (oa) (gf (cur + 1)))))) (s1) (hAQ G 6 6 (va_up (g1) (ln) (some q1)))) (s1) = hAQ G 6 6 (va_up (g1) (ln) (some q1)) := va_up_s _ _ _
    have k26 : (va_up (va_up (va_up (va_up (va_up f (q1) (.inr (4, [.int ((0 : Int32)), .int ((0 : Int32)), .int ((0 : Int32))]))) (q1) (.inr (4, [.int (ka), .int (fa), .int (oa)]))) (fs) (hAI G 8 (upd (gf) (cur + 1) (chS (ka) (fa) (oa) (gf (cur + 1)))))) (s1) (hAQ G 6 6 (va_up (g1) (ln) (some q1)))) (c1) (.inr (2, [.ref (s1), .int (nI (ln + 1))]))) (h0) = .inr (1, [.int (ty), .ref (fs), .ref (cva), .int (nI (cur)), .int (stg)]) := up_k k22 k20 (by simp)
    have k27 : (va_up (va_up (va_up (va_up (va_up f (q1) (.inr (4, [.int ((0 : Int32)), .int ((0 : Int32)), .int ((0 : Int32))]))) (q1) (.inr (4, [.int (ka), .int (fa), .int (oa)]))) (fs) (hAI G 8 (upd (gf) (cur + 1) (chS (ka) (fa) (oa) (gf (cur + 1)))))) (s1) (hAQ G 6 6 (va_up (g1) (ln) (some q1)))) (c1) (.inr (2, [.ref (s1), .int (nI (ln + 1))]))) (cva) = hAQ G 4 8 (gc) := up_k k22 k21 (by simp)
    have k28 : (va_up (va_up (va_up (va_up (va_up f (q1) (.inr (4, [.int ((0 : Int32)), .int ((0 : Int32)), .int ((0 : Int32))]))) (q1) (.inr (4, [.int (ka), .int (fa), .int (oa)]))) (fs) (hAI G 8 (upd (gf) (cur + 1) (chS (ka) (fa) (oa) (gf (cur + 1)))))) (s1) (hAQ G 6 6 (va_up (g1) (ln) (some q1)))) (c1) (.inr (2, [.ref (s1), .int (nI (ln + 1))]))) (q1) = .inr (4, [.int (ka), .int (fa), .int (oa)]) := up_k k22 k23 (by simp)
    have k29 : (va_up (va_up (va_up (va_up (va_up f (q1) (.inr (4, [.int ((0 : Int32)), .int ((0 : Int32)), .int ((0 : Int32))]))) (q1) (.inr (4, [.int (ka), .int (fa), .int (oa)]))) (fs) (hAI G 8 (upd (gf) (cur + 1) (chS (ka) (fa) (oa) (gf (cur + 1)))))) (s1) (hAQ G 6 6 (va_up (g1) (ln) (some q1)))) (c1) (.inr (2, [.ref (s1), .int (nI (ln + 1))]))) (fs) = hAI G 8 (upd (gf) (cur + 1) (chS (ka) (fa) (oa) (gf (cur + 1)))) := up_k k22 k24 (by simp)
    have k30 : (va_up (va_up (va_up (va_up (va_up f (q1) (.inr (4, [.int ((0 : Int32)), .int ((0 : Int32)), .int ((0 : Int32))]))) (q1) (.inr (4, [.int (ka), .int (fa), .int (oa)]))) (fs) (hAI G 8 (upd (gf) (cur + 1) (chS (ka) (fa) (oa) (gf (cur + 1)))))) (s1) (hAQ G 6 6 (va_up (g1) (ln) (some q1)))) (c1) (.inr (2, [.ref (s1), .int (nI (ln + 1))]))) (s1) = hAQ G 6 6 (va_up (g1) (ln) (some q1)) := up_k k22 k25 (by simp)
    have k31 : (va_up (va_up (va_up (va_up (va_up f (q1) (.inr (4, [.int ((0 : Int32)), .int ((0 : Int32)), .int ((0 : Int32))]))) (q1) (.inr (4, [.int (ka), .int (fa), .int (oa)]))) (fs) (hAI G 8 (upd (gf) (cur + 1) (chS (ka) (fa) (oa) (gf (cur + 1)))))) (s1) (hAQ G 6 6 (va_up (g1) (ln) (some q1)))) (c1) (.inr (2, [.ref (s1), .int (nI (ln + 1))]))) (c1) = .inr (2, [.ref (s1), .int (nI (ln + 1))]) := va_up_s _ _ _
    exact hx_iret S X hr hlk (Nat.le_of_ble_eq_true rfl) (Nat.le_of_ble_eq_true rfl) ⟨fun q => by omega, fun _ => ⟨rfl, q1, hq1, by rw [up_up]⟩⟩ dX1_append_82
