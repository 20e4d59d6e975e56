/-! the reference's answers and new states, first lot -/
noncomputable def ws (σ : Sg) (x : Int32) : Int32 := wif (isC σ x) (wif (σ 1 (162 * cN x + 1) = 0) (-2000008) 0) (-2000001)
theorem ws_cases {σ : Sg} (hI : Inv σ) (x : Int32) : (¬ isC σ x ∧ ws σ x = -2000001) ∨ (∃ t, t < nC σ ∧ x = nI t ∧ σ 1 (162 * t + 1) = 0 ∧ ws σ x = -2000008) ∨ (∃ t, t < nC σ ∧ x = nI t ∧ ¬ σ 1 (162 * t + 1) = 0 ∧ ws σ x = 0) := by
  by_cases h : isC σ x
  · have h' := h
    obtain ⟨t, ht, rfl⟩ := h
    have h6 : nC σ ≤ 6 := hI.1.2
    have hc : cN (nI t) = t := nI_clamp (by omega)
    by_cases h1 : σ 1 (162 * t + 1) = 0
    · exact Or.inr (Or.inl ⟨t, ht, rfl, h1, by rw [ws, wif_t h', hc, wif_t h1]⟩)
    · exact Or.inr (Or.inr ⟨t, ht, rfl, h1, by rw [ws, wif_t h', hc, wif_f h1]⟩)
  · exact Or.inl ⟨h, by rw [ws, wif_f h]⟩
def sset (σ : Sg) (t : Nat) : Int32 := σ 1 (162 * t + (2 + cnt σ t))
theorem isB_nar {r : Int32} {P : Prop} (h : isB r P) : narrow .boolean (.int r) = .int r := by
  by_cases hP : P
  · rw [h.1 hP]; decide
  · rw [h.2 hP]; decide
theorem isB_iff {r : Int32} {P Q : Prop} (h : P ↔ Q) (hr : isB r P) : isB r Q := ⟨fun q => hr.1 (h.mpr q), fun q => hr.2 (fun p => q (h.mp p))⟩
noncomputable def M_currentVersion (σ : Sg) (type : Int32) : Int32 × Sg := wif (isC σ type) (nI (cnt σ (cN type)) - 1, σ) (-2000001, σ)
noncomputable def M_fields (σ : Sg) (type version : Int32) : Int32 × Sg := wif (isC σ type) (wif (∃ v, v < cnt σ (cN type) ∧ version = nI v) (σ 1 (162 * cN type + (2 + cN version)), σ) (-2000002, σ)) (-2000001, σ)
noncomputable def M_stagedFields (σ : Sg) (type : Int32) : Int32 × Sg := wif (ws σ type = 0) (sset σ (cN type), σ) (ws σ type, σ)
set_option maxRecDepth 100000 in
set_option maxHeartbeats 4000000 in
theorem c_X7_in (l : Launch) (G : hG) (wd : va_W) (v lo hi : Int32)  : hMi l G yX7_in wsX7_in ({ frames := 0, cells := 0, slots := 0, locals := 0 } : Room) wd [.int (v), .int (lo), .int (hi)] (fun r w => isB r (lo ≤ v ∧ v ≤ hi) ∧ w = wd) := by
  refine hMi.of (cc := cX7_in) (maxL := 3) (some .boolean) RX7 rfl (by decide +kernel) rfl (Nat.le_of_ble_eq_true rfl) ?_
  intro p e s m args below meth c S hr hlk X ls hl
  have hx := S.1
  have hb := S.2.1
  have hown := S.2.2.2.1
  have hts := S.2.2.2.2
  have hl : lv_has ls 3 [(0, .int (v)), (1, .int (lo)), (2, .int (hi))] := hl
  refine lv_iload_n hx hb dX7_in_0 rfl (lv_at hl 0 rfl) ?_
  refine lv_iload_n hx hb dX7_in_1 rfl (lv_at hl 1 rfl) ?_
  refine lv_icmp_lt (tgt := 14) hx hb dX7_in_2 (by decide) (fun c2 => ?_) (fun c2 => ?_)
  · skip
    refine lv_iconst (v := 0) hx hb dX7_in_14 (by decide) ?_
    exact hx_zret S X hr hlk (Nat.le_of_ble_eq_true rfl) (Nat.le_of_ble_eq_true rfl) (by decide) ⟨isB_f (fun h => absurd c2 (Int32.not_lt.mpr h.1)) rfl, rfl⟩ dX7_in_15
  · skip
    refine lv_iload_n hx hb dX7_in_5 rfl (lv_at hl 0 rfl) ?_
    refine lv_iload_n hx hb dX7_in_6 rfl (lv_at hl 2 rfl) ?_
    refine lv_icmp_gt (tgt := 14) hx hb dX7_in_7 (by decide) (fun c7 => ?_) (fun c7 => ?_)
    · skip
      refine lv_iconst (v := 0) hx hb dX7_in_14 (by decide) ?_
      exact hx_zret S X hr hlk (Nat.le_of_ble_eq_true rfl) (Nat.le_of_ble_eq_true rfl) (by decide) ⟨isB_f (fun h => absurd c7 (Int32.not_lt.mpr h.2)) rfl, rfl⟩ dX7_in_15
    · skip
      refine lv_iconst (v := 1) hx hb dX7_in_10 (by decide) ?_
      refine lv_goto (tgt := 15) hx hb dX7_in_11 (by decide) ?_
      exact hx_zret S X hr hlk (Nat.le_of_ble_eq_true rfl) (Nat.le_of_ble_eq_true rfl) (by decide) ⟨isB_t ⟨Int32.not_lt.mp c2, Int32.not_lt.mp c7⟩ rfl, rfl⟩ dX7_in_15

set_option maxRecDepth 100000 in
set_option maxHeartbeats 4000000 in
theorem c_X7_at (l : Launch) (G : hG) (wd : va_W) (t k : Nat)  : hMi l G yX7_at wsX7_at ({ frames := 0, cells := 0, slots := 0, locals := 0 } : Room) wd [.int (nI (t)), .int (nI (k))] (fun r w => r = nI (162 * t + k) ∧ w = wd) := by
  refine hMi.of (cc := cX7_at) (maxL := 2) (some .int) RX7 rfl (by decide +kernel) rfl (Nat.le_of_ble_eq_true rfl) ?_
  intro p e s m args below meth c S hr hlk X ls hl
  have hx := S.1
  have hb := S.2.1
  have hown := S.2.2.2.1
  have hts := S.2.2.2.2
  have hl : lv_has ls 2 [(0, .int (nI (t))), (1, .int (nI (k)))] := hl
  refine lv_sipush (v := 162) hx hb dX7_at_0 (by decide) ?_
  refine lv_iload_n hx hb dX7_at_3 rfl (lv_at hl 0 rfl) ?_
  refine lv_imul hx hb dX7_at_4 ?_
  refine hx_ei (show _ = nI ((162) * (t)) from pk_mul (162) (t)) ?_
  refine lv_iload_n hx hb dX7_at_5 rfl (lv_at hl 1 rfl) ?_
  refine lv_iadd hx hb dX7_at_6 ?_
  refine hx_ei (show _ = nI ((162) * (t) + k) from nI_add ((162) * (t)) (k)) ?_
  exact hx_iret S X hr hlk (Nat.le_of_ble_eq_true rfl) (Nat.le_of_ble_eq_true rfl) ⟨rfl, rfl⟩ dX7_at_7

set_option maxRecDepth 100000 in
set_option maxHeartbeats 4000000 in
theorem c_X7_of (l : Launch) (G : hG) (ad : Nat → Nat) (σ : Sg) (t k : Nat) (hk : 162 * t + k < 972) : hMi l G yX7_of wsX7_of ({ frames := 1, cells := 0, slots := 0, locals := 21 } : Room) (mW G ad σ) [.ref (ad 0), .int (nI (t)), .int (nI (k))] (fun r w => r = σ 1 (162 * t + k) ∧ w = (mW G ad σ)) := by
  refine hMi.of (cc := cX7_of) (maxL := 3) (some .int) RX7 rfl (by decide +kernel) rfl (Nat.le_of_ble_eq_true rfl) ?_
  intro p e s m args below meth c S hr hlk X ls hl
  have hx := S.1
  have hb := S.2.1
  have hown := S.2.2.2.1
  have hts := S.2.2.2.2
  have hl : lv_has ls 3 [(0, .ref (ad 0)), (1, .int (nI (t))), (2, .int (nI (k)))] := hl
  have hin7 : ∀ w ∈ wsX70, w ∈ wsX7_of := by decide +kernel
  refine lv_aload_n hx hb dX7_of_0 rfl (lv_at hl 0 rfl) ?_
  refine hx_getL S X (ci := 7) 0 (mW_0 _ _ _) rfl hin7 1 (by decide) (by decide +kernel) rfl dX7_of_1 ?_
  refine lv_iload_n hx hb dX7_of_4 rfl (lv_at hl 1 rfl) ?_
  refine lv_iload_n hx hb dX7_of_5 rfl (lv_at hl 2 rfl) ?_
  refine hx_Si (rest := [.ref (ad 1)]) S X (c_X7_at l G _ (t) (k)) gX7_of_X7_at rfl (n := 2) (by decide +kernel) rfl ⟨(Nat.le_of_ble_eq_true rfl), (Nat.le_of_ble_eq_true rfl)⟩ hl.1 rfl (Nat.le_of_ble_eq_true rfl) dX7_of_6 ⟨(Nat.le_of_ble_eq_true rfl), (Nat.le_of_ble_eq_true rfl)⟩ (fun r wd1 H locs hp X => ?_)
  obtain ⟨rfl, rfl⟩ := hp
  refine mx_ld S X 1 (N := 972) (mW_1 _ _ _) (j := 162 * t + k) (by omega) (by decide) (x := σ 1 (162 * t + k)) (rfl) dX7_of_9 ?_
  exact hx_iret S X hr hlk (Nat.le_of_ble_eq_true rfl) (Nat.le_of_ble_eq_true rfl) ⟨rfl, rfl⟩ dX7_of_10

set_option maxRecDepth 100000 in
set_option maxHeartbeats 4000000 in
theorem c_X7_isClass (l : Launch) (G : hG) (ad : Nat → Nat) (σ : Sg) (x : Int32) (hI : Inv σ) : hMi l G yX7_isClass wsX7_isClass ({ frames := 1, cells := 0, slots := 0, locals := 22 } : Room) (mW G ad σ) [.ref (ad 0), .int (x)] (fun r w => isB r (isC σ x) ∧ w = (mW G ad σ)) := by
  refine hMi.of (cc := cX7_isClass) (maxL := 2) (some .boolean) RX7 rfl (by decide +kernel) rfl (Nat.le_of_ble_eq_true rfl) ?_
  intro p e s m args below meth c S hr hlk X ls hl
  have hx := S.1
  have hb := S.2.1
  have hown := S.2.2.2.1
  have hts := S.2.2.2.2
  have hl : lv_has ls 2 [(0, .ref (ad 0)), (1, .int (x))] := hl
  have hin7 : ∀ w ∈ wsX70, w ∈ wsX7_isClass := by decide +kernel
  have hC6 : nC σ ≤ 6 := hI.1.2
  have hO24 : nO σ ≤ 24 := hI.2.1.2
  refine lv_iload_n hx hb dX7_isClass_0 rfl (lv_at hl 1 rfl) ?_
  refine lv_iconst (v := 0) hx hb dX7_isClass_1 (by decide) ?_
  refine lv_aload_n hx hb dX7_isClass_2 rfl (lv_at hl 0 rfl) ?_
  refine hx_getL S X (ci := 7) 0 (mW_0 _ _ _) rfl hin7 0 (by decide) (by decide +kernel) rfl dX7_isClass_3 ?_
  refine hx_ei (show _ = nI (nC σ) from hI.1.1) ?_
  refine lv_iconst (v := 1) hx hb dX7_isClass_6 (by decide) ?_
  refine lv_isub hx hb dX7_isClass_7 ?_
  refine hx_ei (show _ = nI (nC σ) - 1 from rfl) ?_
  refine hx_Si (rest := []) S X (c_X7_in l G _ (x) ((0 : Int32)) (nI (nC σ) - 1)) gX7_isClass_X7_in rfl (n := 3) (by decide +kernel) rfl ⟨(Nat.le_of_ble_eq_true rfl), (Nat.le_of_ble_eq_true rfl)⟩ hl.1 rfl (Nat.le_of_ble_eq_true rfl) dX7_isClass_8 ⟨(Nat.le_of_ble_eq_true rfl), (Nat.le_of_ble_eq_true rfl)⟩ (fun r wd1 H locs hp X => ?_)
  obtain ⟨hr8, rfl⟩ := hp
  exact hx_zret S X hr hlk (Nat.le_of_ble_eq_true rfl) (Nat.le_of_ble_eq_true rfl) (isB_nar hr8) ⟨isB_iff (in_m1 (by omega) x) hr8, rfl⟩ dX7_isClass_11

set_option maxRecDepth 100000 in
set_option maxHeartbeats 4000000 in
theorem c_X7_wrongStage (l : Launch) (G : hG) (ad : Nat → Nat) (σ : Sg) (x : Int32) (hI : Inv σ) : hMi l G yX7_wrongStage wsX7_wrongStage ({ frames := 2, cells := 0, slots := 0, locals := 43 } : Room) (mW G ad σ) [.ref (ad 0), .int (x)] (fun r w => r = ws σ x ∧ w = (mW G ad σ)) := by
  refine hMi.of (cc := cX7_wrongStage) (maxL := 2) (some .int) RX7 rfl (by decide +kernel) rfl (Nat.le_of_ble_eq_true rfl) ?_
  intro p e s m args below meth c S hr hlk X ls hl
  have hx := S.1
  have hb := S.2.1
  have hown := S.2.2.2.1
  have hts := S.2.2.2.2
  have hl : lv_has ls 2 [(0, .ref (ad 0)), (1, .int (x))] := hl
  have hin7 : ∀ w ∈ wsX70, w ∈ wsX7_wrongStage := by decide +kernel
  have hC6 : nC σ ≤ 6 := hI.1.2
  have hO24 : nO σ ≤ 24 := hI.2.1.2
  refine lv_aload_n hx hb dX7_wrongStage_0 rfl (lv_at hl 0 rfl) ?_
  refine lv_iload_n hx hb dX7_wrongStage_1 rfl (lv_at hl 1 rfl) ?_
  refine hx_Vi (rest := []) S X (c_X7_isClass l G ad σ (x) hI) gX7_wrongStage_X7_isClass rfl (n := 1) (by decide +kernel) rfl ⟨(Nat.le_of_ble_eq_true rfl), (Nat.le_of_ble_eq_true rfl)⟩ (hx_recvL (q0 := 0) (ci := 7) X rfl (mW_0 _ _ _)) hl.1 rfl (Nat.le_of_ble_eq_true rfl) dX7_wrongStage_2 ⟨(Nat.le_of_ble_eq_true rfl), (Nat.le_of_ble_eq_true rfl)⟩ (fun r wd1 H locs hp X => ?_)
  obtain ⟨hr2, rfl⟩ := hp
  by_cases h2 : isC σ (x)
  · skip
    refine hx_ei (hr2.1 h2) ?_
    have h2' := h2
    obtain ⟨t, ht, rfl⟩ := h2
    have hct : (nI t).toNatClampNeg = t := nI_clamp (by omega)
    obtain ⟨⟨hk0, hk1, hk2⟩, hks, hkv⟩ := hI.2.2.1 t ht
    refine lv_if_ne (tgt := 13) hx hb dX7_wrongStage_5 (by decide) (fun _ => ?_) (fun c9 => absurd c9 (by decide))
    refine lv_aload_n hx hb dX7_wrongStage_13 rfl (lv_at hl 0 rfl) ?_
    refine lv_iload_n hx hb dX7_wrongStage_14 rfl (lv_at hl 1 rfl) ?_
    refine lv_iconst (v := 1) hx hb dX7_wrongStage_15 (by decide) ?_
    refine hx_Vi (rest := []) S X (c_X7_of l G ad σ (t) (1) (by omega)) gX7_wrongStage_X7_of rfl (n := 2) (by decide +kernel) rfl ⟨(Nat.le_of_ble_eq_true rfl), (Nat.le_of_ble_eq_true rfl)⟩ (hx_recvL (q0 := 0) (ci := 7) X rfl (mW_0 _ _ _)) hl.1 rfl (Nat.le_of_ble_eq_true rfl) dX7_wrongStage_16 ⟨(Nat.le_of_ble_eq_true rfl), (Nat.le_of_ble_eq_true rfl)⟩ (fun r wd1 H locs hp X => ?_)
    obtain ⟨rfl, rfl⟩ := hp
    refine hx_ei (show _ = σ 1 (162 * t + 1) from rfl) ?_
    refine lv_if_ne (tgt := 27) hx hb dX7_wrongStage_19 (by decide) (fun c19 => ?_) (fun c19 => ?_)
    · skip
      refine lv_iconst (v := 0) hx hb dX7_wrongStage_27 (by decide) ?_
      exact hx_iret S X hr hlk (Nat.le_of_ble_eq_true rfl) (Nat.le_of_ble_eq_true rfl) (by simp [ws, wif_t, wif_f, h2', hct, c19]) dX7_wrongStage_28
    · skip
      refine lv_ldc (v := -2000008) hx hb hown (hts (Cond.constant RX7 69 (-2000008)) (by decide +kernel)) dX7_wrongStage_22 ?_
      refine lv_goto (tgt := 28) hx hb dX7_wrongStage_24 (by decide) ?_
      exact hx_iret S X hr hlk (Nat.le_of_ble_eq_true rfl) (Nat.le_of_ble_eq_true rfl) (by simp [ws, wif_t, wif_f, h2', hct, c19]) dX7_wrongStage_28
  · skip
    refine hx_ei (hr2.2 h2) ?_
    refine lv_if_ne (tgt := 13) hx hb dX7_wrongStage_5 (by decide) (fun c9 => absurd (by decide) c9) (fun _ => ?_)
    refine lv_ldc (v := -2000001) hx hb hown (hts (Cond.constant RX7 66 (-2000001)) (by decide +kernel)) dX7_wrongStage_8 ?_
    refine lv_goto (tgt := 28) hx hb dX7_wrongStage_10 (by decide) ?_
    exact hx_iret S X hr hlk (Nat.le_of_ble_eq_true rfl) (Nat.le_of_ble_eq_true rfl) (by simp [ws, wif_t, wif_f, h2]) dX7_wrongStage_28

set_option maxRecDepth 100000 in
set_option maxHeartbeats 4000000 in
theorem c_X7_stagedNow (l : Launch) (G : hG) (ad : Nat → Nat) (σ : Sg) (t : Nat) (hI : Inv σ) (ht : t < nC σ) (h7 : cnt σ t ≤ 7) : hMi l G yX7_stagedNow wsX7_stagedNow ({ frames := 2, cells := 0, slots := 0, locals := 43 } : Room) (mW G ad σ) [.ref (ad 0), .int (nI (t))] (fun r w => r = sset σ t ∧ w = (mW G ad σ)) := by
  refine hMi.of (cc := cX7_stagedNow) (maxL := 2) (some .int) RX7 rfl (by decide +kernel) rfl (Nat.le_of_ble_eq_true rfl) ?_
  intro p e s m args below meth c S hr hlk X ls hl
  have hx := S.1
  have hb := S.2.1
  have hown := S.2.2.2.1
  have hts := S.2.2.2.2
  have hl : lv_has ls 2 [(0, .ref (ad 0)), (1, .int (nI (t)))] := hl
  have hin7 : ∀ w ∈ wsX70, w ∈ wsX7_stagedNow := by decide +kernel
  have hC6 : nC σ ≤ 6 := hI.1.2
  have hO24 : nO σ ≤ 24 := hI.2.1.2
  refine lv_aload_n hx hb dX7_stagedNow_0 rfl (lv_at hl 0 rfl) ?_
  refine lv_iload_n hx hb dX7_stagedNow_1 rfl (lv_at hl 1 rfl) ?_
  refine lv_iconst (v := 2) hx hb dX7_stagedNow_2 (by decide) ?_
  refine lv_aload_n hx hb dX7_stagedNow_3 rfl (lv_at hl 0 rfl) ?_
  refine lv_iload_n hx hb dX7_stagedNow_4 rfl (lv_at hl 1 rfl) ?_
  refine lv_iconst (v := 0) hx hb dX7_stagedNow_5 (by decide) ?_
  refine hx_Vi (rest := [.int ((2 : Int32)), .int (nI (t)), .ref (ad 0)]) S X (c_X7_of l G ad σ (t) (0) (by omega)) gX7_stagedNow_X7_of rfl (n := 2) (by decide +kernel) rfl ⟨(Nat.le_of_ble_eq_true rfl), (Nat.le_of_ble_eq_true rfl)⟩ (hx_recvL (q0 := 0) (ci := 7) X rfl (mW_0 _ _ _)) hl.1 rfl (Nat.le_of_ble_eq_true rfl) dX7_stagedNow_6 ⟨(Nat.le_of_ble_eq_true rfl), (Nat.le_of_ble_eq_true rfl)⟩ (fun r wd1 H locs hp X => ?_)
  obtain ⟨rfl, rfl⟩ := hp
  refine hx_ei (show _ = nI (cnt σ t) from (hI.2.2.1 t ht).1.1) ?_
  refine lv_iadd hx hb dX7_stagedNow_9 ?_
  refine hx_ei (show _ = nI (2 + cnt σ t) from nI_add (2) (cnt σ t)) ?_
  refine hx_Vi (rest := []) S X (c_X7_of l G ad σ (t) (2 + cnt σ t) (by omega)) gX7_stagedNow_X7_of rfl (n := 2) (by decide +kernel) rfl ⟨(Nat.le_of_ble_eq_true rfl), (Nat.le_of_ble_eq_true rfl)⟩ (hx_recvL (q0 := 0) (ci := 7) X rfl (mW_0 _ _ _)) hl.1 rfl (Nat.le_of_ble_eq_true rfl) dX7_stagedNow_10 ⟨(Nat.le_of_ble_eq_true rfl), (Nat.le_of_ble_eq_true rfl)⟩ (fun r wd1 H locs hp X => ?_)
  obtain ⟨rfl, rfl⟩ := hp
  refine hx_ei (show _ = σ 1 (162 * t + (2 + cnt σ t)) from rfl) ?_
  exact hx_iret S X hr hlk (Nat.le_of_ble_eq_true rfl) (Nat.le_of_ble_eq_true rfl) ⟨rfl, rfl⟩ dX7_stagedNow_13

set_option maxRecDepth 100000 in
set_option maxHeartbeats 4000000 in
theorem c_X7_current (l : Launch) (G : hG) (ad : Nat → Nat) (σ : Sg) (t : Nat) (h6 : t < 6) : hMi l G yX7_current wsX7_current ({ frames := 2, cells := 0, slots := 0, locals := 43 } : Room) (mW G ad σ) [.ref (ad 0), .int (nI (t))] (fun r w => r = σ 1 (162 * t + 0) - 1 ∧ w = (mW G ad σ)) := by
  refine hMi.of (cc := cX7_current) (maxL := 2) (some .int) RX7 rfl (by decide +kernel) rfl (Nat.le_of_ble_eq_true rfl) ?_
  intro p e s m args below meth c S hr hlk X ls hl
  have hx := S.1
  have hb := S.2.1
  have hown := S.2.2.2.1
  have hts := S.2.2.2.2
  have hl : lv_has ls 2 [(0, .ref (ad 0)), (1, .int (nI (t)))] := hl
  have hin7 : ∀ w ∈ wsX70, w ∈ wsX7_current := by decide +kernel
  refine lv_aload_n hx hb dX7_current_0 rfl (lv_at hl 0 rfl) ?_
  refine lv_iload_n hx hb dX7_current_1 rfl (lv_at hl 1 rfl) ?_
  refine lv_iconst (v := 0) hx hb dX7_current_2 (by decide) ?_
  refine hx_Vi (rest := []) S X (c_X7_of l G ad σ (t) (0) (by omega)) gX7_current_X7_of rfl (n := 2) (by decide +kernel) rfl ⟨(Nat.le_of_ble_eq_true rfl), (Nat.le_of_ble_eq_true rfl)⟩ (hx_recvL (q0 := 0) (ci := 7) X rfl (mW_0 _ _ _)) hl.1 rfl (Nat.le_of_ble_eq_true rfl) dX7_current_3 ⟨(Nat.le_of_ble_eq_true rfl), (Nat.le_of_ble_eq_true rfl)⟩ (fun r wd1 H locs hp X => ?_)
  obtain ⟨rfl, rfl⟩ := hp
  refine hx_ei (show _ = σ 1 (162 * t + 0) from rfl) ?_
  refine lv_iconst (v := 1) hx hb dX7_current_6 (by decide) ?_
  refine lv_isub hx hb dX7_current_7 ?_
  exact hx_iret S X hr hlk (Nat.le_of_ble_eq_true rfl) (Nat.le_of_ble_eq_true rfl) ⟨rfl, rfl⟩ dX7_current_8

set_option maxRecDepth 100000 in
set_option maxHeartbeats 4000000 in
theorem c_X7_has (l : Launch) (G : hG) (wd : va_W) (set f : Int32)  : hMi l G yX7_has wsX7_has ({ frames := 1, cells := 0, slots := 0, locals := 22 } : Room) wd [.int (set), .int (f)] (fun r w => isB r (hasF set f) ∧ w = wd) := by
  refine hMi.of (cc := cX7_has) (maxL := 2) (some .boolean) RX7 rfl (by decide +kernel) rfl (Nat.le_of_ble_eq_true rfl) ?_
  intro p e s m args below meth c S hr hlk X ls hl
  have hx := S.1
  have hb := S.2.1
  have hown := S.2.2.2.1
  have hts := S.2.2.2.2
  have hl : lv_has ls 2 [(0, .int (set)), (1, .int (f))] := hl
  refine lv_iload_n hx hb dX7_has_0 rfl (lv_at hl 1 rfl) ?_
  refine lv_iconst (v := 0) hx hb dX7_has_1 (by decide) ?_
  refine lv_bipush (v := 7) hx hb dX7_has_2 (by decide) ?_
  refine hx_Si (rest := []) S X (c_X7_in l G _ (f) ((0 : Int32)) ((7 : Int32))) gX7_has_X7_in rfl (n := 3) (by decide +kernel) rfl ⟨(Nat.le_of_ble_eq_true rfl), (Nat.le_of_ble_eq_true rfl)⟩ hl.1 rfl (Nat.le_of_ble_eq_true rfl) dX7_has_4 ⟨(Nat.le_of_ble_eq_true rfl), (Nat.le_of_ble_eq_true rfl)⟩ (fun r wd1 H locs hp X => ?_)
  obtain ⟨hr4, rfl⟩ := hp
  by_cases h4 : 0 ≤ f ∧ f ≤ 7
  · skip
    refine hx_ei (hr4.1 h4) ?_
    refine lv_if_eq (tgt := 23) hx hb dX7_has_7 (by decide) (fun c9 => absurd c9 (by decide)) (fun _ => ?_)
    refine lv_iload_n hx hb dX7_has_10 rfl (lv_at hl 0 rfl) ?_
    refine lv_iload_n hx hb dX7_has_11 rfl (lv_at hl 1 rfl) ?_
    refine lv_ishr hx hb dX7_has_12 ?_
    refine lv_iconst (v := 1) hx hb dX7_has_13 (by decide) ?_
    refine lv_iand hx hb dX7_has_14 ?_
    refine lv_iconst (v := 1) hx hb dX7_has_15 (by decide) ?_
    refine lv_icmp_ne (tgt := 23) hx hb dX7_has_16 (by decide) (fun c16 => ?_) (fun c16 => ?_)
    · skip
      refine lv_iconst (v := 0) hx hb dX7_has_23 (by decide) ?_
      exact hx_zret S X hr hlk (Nat.le_of_ble_eq_true rfl) (Nat.le_of_ble_eq_true rfl) (by decide) ⟨isB_f (fun h => absurd h.2 c16) rfl, rfl⟩ dX7_has_24
    · skip
      refine lv_iconst (v := 1) hx hb dX7_has_19 (by decide) ?_
      refine lv_goto (tgt := 24) hx hb dX7_has_20 (by decide) ?_
      exact hx_zret S X hr hlk (Nat.le_of_ble_eq_true rfl) (Nat.le_of_ble_eq_true rfl) (by decide) ⟨isB_t ⟨(in_1 (n := 7) (by decide) f).mp h4, c16⟩ rfl, rfl⟩ dX7_has_24
  · skip
    refine hx_ei (hr4.2 h4) ?_
    refine lv_if_eq (tgt := 23) hx hb dX7_has_7 (by decide) (fun _ => ?_) (fun c9 => absurd (by decide) c9)
    refine lv_iconst (v := 0) hx hb dX7_has_23 (by decide) ?_
    exact hx_zret S X hr hlk (Nat.le_of_ble_eq_true rfl) (Nat.le_of_ble_eq_true rfl) (by decide) ⟨isB_f (fun h => absurd ((in_1 (n := 7) (by decide) f).mpr h.1) h4) rfl, rfl⟩ dX7_has_24

set_option maxRecDepth 100000 in
set_option maxHeartbeats 4000000 in
theorem c_X7_currentVersion (l : Launch) (G : hG) (ad : Nat → Nat) (σ : Sg) (type : Int32) (hI : Inv σ) : hMi l G yX7_currentVersion wsX7_currentVersion ({ frames := 3, cells := 0, slots := 0, locals := 64 } : Room) (mW G ad σ) [.ref (ad 0), .int (type)] (fun r w => r = (M_currentVersion σ type).1 ∧ w = mW G ad (M_currentVersion σ type).2) := by
  refine hMi.of (cc := cX7_currentVersion) (maxL := 2) (some .int) RX7 rfl (by decide +kernel) rfl (Nat.le_of_ble_eq_true rfl) ?_
  intro p e s m args below meth c S hr hlk X ls hl
  have hx := S.1
  have hb := S.2.1
  have hown := S.2.2.2.1
  have hts := S.2.2.2.2
  have hl : lv_has ls 2 [(0, .ref (ad 0)), (1, .int (type))] := hl
  have hin7 : ∀ w ∈ wsX70, w ∈ wsX7_currentVersion := by decide +kernel
  have hC6 : nC σ ≤ 6 := hI.1.2
  have hO24 : nO σ ≤ 24 := hI.2.1.2
  refine lv_aload_n hx hb dX7_currentVersion_0 rfl (lv_at hl 0 rfl) ?_
  refine lv_iload_n hx hb dX7_currentVersion_1 rfl (lv_at hl 1 rfl) ?_
  refine hx_Vi (rest := []) S X (c_X7_isClass l G ad σ (type) hI) gX7_currentVersion_X7_isClass rfl (n := 1) (by decide +kernel) rfl ⟨(Nat.le_of_ble_eq_true rfl), (Nat.le_of_ble_eq_true rfl)⟩ (hx_recvL (q0 := 0) (ci := 7) X rfl (mW_0 _ _ _)) hl.1 rfl (Nat.le_of_ble_eq_true rfl) dX7_currentVersion_2 ⟨(Nat.le_of_ble_eq_true rfl), (Nat.le_of_ble_eq_true rfl)⟩ (fun r wd1 H locs hp X => ?_)
  obtain ⟨hr2, rfl⟩ := hp
  by_cases h2 : isC σ (type)
  · skip
    refine hx_ei (hr2.1 h2) ?_
    have h2' := h2
    obtain ⟨t, ht, rfl⟩ := h2
    have hct : (nI t).toNatClampNeg = t := nI_clamp (by omega)
    obtain ⟨⟨hk0, hk1, hk2⟩, hks, hkv⟩ := hI.2.2.1 t ht
    refine lv_if_eq (tgt := 16) hx hb dX7_currentVersion_5 (by decide) (fun c9 => absurd c9 (by decide)) (fun _ => ?_)
    refine lv_aload_n hx hb dX7_currentVersion_8 rfl (lv_at hl 0 rfl) ?_
    refine lv_iload_n hx hb dX7_currentVersion_9 rfl (lv_at hl 1 rfl) ?_
    refine hx_Vi (rest := []) S X (c_X7_current l G ad σ (t) (by omega)) gX7_currentVersion_X7_current rfl (n := 1) (by decide +kernel) rfl ⟨(Nat.le_of_ble_eq_true rfl), (Nat.le_of_ble_eq_true rfl)⟩ (hx_recvL (q0 := 0) (ci := 7) X rfl (mW_0 _ _ _)) hl.1 rfl (Nat.le_of_ble_eq_true rfl) dX7_currentVersion_10 ⟨(Nat.le_of_ble_eq_true rfl), (Nat.le_of_ble_eq_true rfl)⟩ (fun r wd1 H locs hp X => ?_)
    obtain ⟨rfl, rfl⟩ := hp
    refine hx_ei (show _ = nI (cnt σ t) - 1 from by rw [show σ 1 (162 * t + 0) = nI (cnt σ t) from hk0]) ?_
    refine lv_goto (tgt := 18) hx hb dX7_currentVersion_13 (by decide) ?_
    exact hx_iret S X hr hlk (Nat.le_of_ble_eq_true rfl) (Nat.le_of_ble_eq_true rfl) (by simp [M_currentVersion, wif_t, wif_f, h2', hct]) dX7_currentVersion_18
  · skip
    refine hx_ei (hr2.2 h2) ?_
    refine lv_if_eq (tgt := 16) hx hb dX7_currentVersion_5 (by decide) (fun _ => ?_) (fun c9 => absurd (by decide) c9)
    refine lv_ldc (v := -2000001) hx hb hown (hts (Cond.constant RX7 66 (-2000001)) (by decide +kernel)) dX7_currentVersion_16 ?_
    exact hx_iret S X hr hlk (Nat.le_of_ble_eq_true rfl) (Nat.le_of_ble_eq_true rfl) (by simp [M_currentVersion, wif_t, wif_f, h2]) dX7_currentVersion_18

set_option maxRecDepth 100000 in
set_option maxHeartbeats 4000000 in
theorem c_X7_fields (l : Launch) (G : hG) (ad : Nat → Nat) (σ : Sg) (type version : Int32) (hI : Inv σ) : hMi l G yX7_fields wsX7_fields ({ frames := 3, cells := 0, slots := 0, locals := 64 } : Room) (mW G ad σ) [.ref (ad 0), .int (type), .int (version)] (fun r w => r = (M_fields σ type version).1 ∧ w = mW G ad (M_fields σ type version).2) := by
  refine hMi.of (cc := cX7_fields) (maxL := 3) (some .int) RX7 rfl (by decide +kernel) rfl (Nat.le_of_ble_eq_true rfl) ?_
  intro p e s m args below meth c S hr hlk X ls hl
  have hx := S.1
  have hb := S.2.1
  have hown := S.2.2.2.1
  have hts := S.2.2.2.2
  have hl : lv_has ls 3 [(0, .ref (ad 0)), (1, .int (type)), (2, .int (version))] := hl
  have hin7 : ∀ w ∈ wsX70, w ∈ wsX7_fields := by decide +kernel
  have hC6 : nC σ ≤ 6 := hI.1.2
  have hO24 : nO σ ≤ 24 := hI.2.1.2
  refine lv_aload_n hx hb dX7_fields_0 rfl (lv_at hl 0 rfl) ?_
  refine lv_iload_n hx hb dX7_fields_1 rfl (lv_at hl 1 rfl) ?_
  refine hx_Vi (rest := []) S X (c_X7_isClass l G ad σ (type) hI) gX7_fields_X7_isClass rfl (n := 1) (by decide +kernel) rfl ⟨(Nat.le_of_ble_eq_true rfl), (Nat.le_of_ble_eq_true rfl)⟩ (hx_recvL (q0 := 0) (ci := 7) X rfl (mW_0 _ _ _)) hl.1 rfl (Nat.le_of_ble_eq_true rfl) dX7_fields_2 ⟨(Nat.le_of_ble_eq_true rfl), (Nat.le_of_ble_eq_true rfl)⟩ (fun r wd1 H locs hp X => ?_)
  obtain ⟨hr2, rfl⟩ := hp
  by_cases h2 : isC σ (type)
  · skip
    refine hx_ei (hr2.1 h2) ?_
    have h2' := h2
    obtain ⟨t, ht, rfl⟩ := h2
    have hct : (nI t).toNatClampNeg = t := nI_clamp (by omega)
    obtain ⟨⟨hk0, hk1, hk2⟩, hks, hkv⟩ := hI.2.2.1 t ht
    refine lv_if_ne (tgt := 11) hx hb dX7_fields_5 (by decide) (fun _ => ?_) (fun c9 => absurd c9 (by decide))
    refine lv_iload_n hx hb dX7_fields_11 rfl (lv_at hl 2 rfl) ?_
    refine lv_iconst (v := 0) hx hb dX7_fields_12 (by decide) ?_
    refine lv_aload_n hx hb dX7_fields_13 rfl (lv_at hl 0 rfl) ?_
    refine lv_iload_n hx hb dX7_fields_14 rfl (lv_at hl 1 rfl) ?_
    refine hx_Vi (rest := [.int ((0 : Int32)), .int (version)]) S X (c_X7_current l G ad σ (t) (by omega)) gX7_fields_X7_current rfl (n := 1) (by decide +kernel) rfl ⟨(Nat.le_of_ble_eq_true rfl), (Nat.le_of_ble_eq_true rfl)⟩ (hx_recvL (q0 := 0) (ci := 7) X rfl (mW_0 _ _ _)) hl.1 rfl (Nat.le_of_ble_eq_true rfl) dX7_fields_15 ⟨(Nat.le_of_ble_eq_true rfl), (Nat.le_of_ble_eq_true rfl)⟩ (fun r wd1 H locs hp X => ?_)
    obtain ⟨rfl, rfl⟩ := hp
    refine hx_ei (show _ = nI (cnt σ t) - 1 from by rw [show σ 1 (162 * t + 0) = nI (cnt σ t) from hk0]) ?_
    refine hx_Si (rest := []) S X (c_X7_in l G _ (version) ((0 : Int32)) (nI (cnt σ t) - 1)) gX7_fields_X7_in rfl (n := 3) (by decide +kernel) rfl ⟨(Nat.le_of_ble_eq_true rfl), (Nat.le_of_ble_eq_true rfl)⟩ hl.1 rfl (Nat.le_of_ble_eq_true rfl) dX7_fields_18 ⟨(Nat.le_of_ble_eq_true rfl), (Nat.le_of_ble_eq_true rfl)⟩ (fun r wd1 H locs hp X => ?_)
    obtain ⟨hr18, rfl⟩ := hp
    by_cases h18 : 0 ≤ version ∧ version ≤ nI (cnt σ t) - 1
    · skip
      refine hx_ei (hr18.1 h18) ?_
      have h18' := (in_m1 (by omega) version).mp h18
      have h18a := h18'
      obtain ⟨v, hv, rfl⟩ := h18'
      have hcv : (nI v).toNatClampNeg = v := nI_clamp (by omega)
      refine lv_if_eq (tgt := 35) hx hb dX7_fields_21 (by decide) (fun c9 => absurd c9 (by decide)) (fun _ => ?_)
      refine lv_aload_n hx hb dX7_fields_24 rfl (lv_at hl 0 rfl) ?_
      refine lv_iload_n hx hb dX7_fields_25 rfl (lv_at hl 1 rfl) ?_
      refine lv_iconst (v := 2) hx hb dX7_fields_26 (by decide) ?_
      refine lv_iload_n hx hb dX7_fields_27 rfl (lv_at hl 2 rfl) ?_
      refine lv_iadd hx hb dX7_fields_28 ?_
      refine hx_ei (show _ = nI (2 + v) from nI_add (2) (v)) ?_
      refine hx_Vi (rest := []) S X (c_X7_of l G ad σ (t) (2 + v) (by omega)) gX7_fields_X7_of rfl (n := 2) (by decide +kernel) rfl ⟨(Nat.le_of_ble_eq_true rfl), (Nat.le_of_ble_eq_true rfl)⟩ (hx_recvL (q0 := 0) (ci := 7) X rfl (mW_0 _ _ _)) hl.1 rfl (Nat.le_of_ble_eq_true rfl) dX7_fields_29 ⟨(Nat.le_of_ble_eq_true rfl), (Nat.le_of_ble_eq_true rfl)⟩ (fun r wd1 H locs hp X => ?_)
      obtain ⟨rfl, rfl⟩ := hp
      refine hx_ei (show _ = σ 1 (162 * t + (2 + v)) from rfl) ?_
      refine lv_goto (tgt := 37) hx hb dX7_fields_32 (by decide) ?_
      exact hx_iret S X hr hlk (Nat.le_of_ble_eq_true rfl) (Nat.le_of_ble_eq_true rfl) (by simp [M_fields, wif_t, wif_f, h2', hct, h18a, hcv]) dX7_fields_37
    · skip
      refine hx_ei (hr18.2 h18) ?_
      have h18a : ¬ ∃ j, j < cnt σ t ∧ version = nI j := fun h => h18 ((in_m1 (by omega) version).mpr h)
      refine lv_if_eq (tgt := 35) hx hb dX7_fields_21 (by decide) (fun _ => ?_) (fun c9 => absurd (by decide) c9)
      refine lv_ldc (v := -2000002) hx hb hown (hts (Cond.constant RX7 67 (-2000002)) (by decide +kernel)) dX7_fields_35 ?_
      exact hx_iret S X hr hlk (Nat.le_of_ble_eq_true rfl) (Nat.le_of_ble_eq_true rfl) (by simp [M_fields, wif_t, wif_f, h2', hct, h18, h18a]) dX7_fields_37
  · skip
    refine hx_ei (hr2.2 h2) ?_
    refine lv_if_ne (tgt := 11) hx hb dX7_fields_5 (by decide) (fun c9 => absurd (by decide) c9) (fun _ => ?_)
    refine lv_ldc (v := -2000001) hx hb hown (hts (Cond.constant RX7 66 (-2000001)) (by decide +kernel)) dX7_fields_8 ?_
    exact hx_iret S X hr hlk (Nat.le_of_ble_eq_true rfl) (Nat.le_of_ble_eq_true rfl) (by simp [M_fields, wif_t, wif_f, h2]) dX7_fields_10

set_option maxRecDepth 100000 in
set_option maxHeartbeats 4000000 in
theorem c_X7_stagedFields (l : Launch) (G : hG) (ad : Nat → Nat) (σ : Sg) (type : Int32) (hI : Inv σ) : hMi l G yX7_stagedFields wsX7_stagedFields ({ frames := 3, cells := 0, slots := 0, locals := 64 } : Room) (mW G ad σ) [.ref (ad 0), .int (type)] (fun r w => r = (M_stagedFields σ type).1 ∧ w = mW G ad (M_stagedFields σ type).2) := by
  refine hMi.of (cc := cX7_stagedFields) (maxL := 3) (some .int) RX7 rfl (by decide +kernel) rfl (Nat.le_of_ble_eq_true rfl) ?_
  intro p e s m args below meth c S hr hlk X ls hl
  have hx := S.1
  have hb := S.2.1
  have hown := S.2.2.2.1
  have hts := S.2.2.2.2
  have hl : lv_has ls 3 [(0, .ref (ad 0)), (1, .int (type))] := hl
  have hin7 : ∀ w ∈ wsX70, w ∈ wsX7_stagedFields := by decide +kernel
  have hC6 : nC σ ≤ 6 := hI.1.2
  have hO24 : nO σ ≤ 24 := hI.2.1.2
  refine lv_aload_n hx hb dX7_stagedFields_0 rfl (lv_at hl 0 rfl) ?_
  refine lv_iload_n hx hb dX7_stagedFields_1 rfl (lv_at hl 1 rfl) ?_
  refine hx_Vi (rest := []) S X (c_X7_wrongStage l G ad σ (type) hI) gX7_stagedFields_X7_wrongStage rfl (n := 1) (by decide +kernel) rfl ⟨(Nat.le_of_ble_eq_true rfl), (Nat.le_of_ble_eq_true rfl)⟩ (hx_recvL (q0 := 0) (ci := 7) X rfl (mW_0 _ _ _)) hl.1 rfl (Nat.le_of_ble_eq_true rfl) dX7_stagedFields_2 ⟨(Nat.le_of_ble_eq_true rfl), (Nat.le_of_ble_eq_true rfl)⟩ (fun r wd1 H locs hp X => ?_)
  obtain ⟨rfl, rfl⟩ := hp
  rcases ws_cases hI type with ⟨w1, w2⟩ | ⟨t, ht, rfl, w1, w2⟩ | ⟨t, ht, rfl, w1, w2⟩
  · skip
    refine hx_ei (show _ = (-2000001 : Int32) from w2) ?_
    refine lv_istore_n (lv' := [(2, .int ((-2000001 : Int32))), (0, .ref (ad 0)), (1, .int (type))]) hx hb dX7_stagedFields_5 rfl hl (by decide) rfl (fun ls hl => ?_)
    refine lv_iload_n hx hb dX7_stagedFields_6 rfl (lv_at hl 0 rfl) ?_
    refine lv_if_eq (tgt := 14) hx hb dX7_stagedFields_7 (by decide) (fun c9 => absurd c9 (by decide)) (fun _ => ?_)
    refine lv_iload_n hx hb dX7_stagedFields_10 rfl (lv_at hl 0 rfl) ?_
    refine lv_goto (tgt := 19) hx hb dX7_stagedFields_11 (by decide) ?_
    exact hx_iret S X hr hlk (Nat.le_of_ble_eq_true rfl) (Nat.le_of_ble_eq_true rfl) (by simp [M_stagedFields, wif_t, wif_f, w1, w2]) dX7_stagedFields_19
  · skip
    refine hx_ei (show _ = (-2000008 : Int32) from w2) ?_
    refine lv_istore_n (lv' := [(2, .int ((-2000008 : Int32))), (0, .ref (ad 0)), (1, .int (nI (t)))]) hx hb dX7_stagedFields_5 rfl hl (by decide) rfl (fun ls hl => ?_)
    refine lv_iload_n hx hb dX7_stagedFields_6 rfl (lv_at hl 0 rfl) ?_
    refine lv_if_eq (tgt := 14) hx hb dX7_stagedFields_7 (by decide) (fun c9 => absurd c9 (by decide)) (fun _ => ?_)
    refine lv_iload_n hx hb dX7_stagedFields_10 rfl (lv_at hl 0 rfl) ?_
    refine lv_goto (tgt := 19) hx hb dX7_stagedFields_11 (by decide) ?_
    exact hx_iret S X hr hlk (Nat.le_of_ble_eq_true rfl) (Nat.le_of_ble_eq_true rfl) (by simp [M_stagedFields, wif_t, wif_f, w1, w2]) dX7_stagedFields_19
  · skip
    have hct : (nI t).toNatClampNeg = t := nI_clamp (by omega)
    obtain ⟨⟨hk0, hk1, hk2⟩, hks, hkv⟩ := hI.2.2.1 t ht
    have hk3 : cnt σ t ≤ 7 := hks.elim (fun q => absurd q w1) (fun q => q.2)
    refine hx_ei (show _ = (0 : Int32) from w2) ?_
    refine lv_istore_n (lv' := [(2, .int ((0 : Int32))), (0, .ref (ad 0)), (1, .int (nI (t)))]) hx hb dX7_stagedFields_5 rfl hl (by decide) rfl (fun ls hl => ?_)
    refine lv_iload_n hx hb dX7_stagedFields_6 rfl (lv_at hl 0 rfl) ?_
    refine lv_if_eq (tgt := 14) hx hb dX7_stagedFields_7 (by decide) (fun _ => ?_) (fun c9 => absurd (by decide) c9)
    refine lv_aload_n hx hb dX7_stagedFields_14 rfl (lv_at hl 1 rfl) ?_
    refine lv_iload_n hx hb dX7_stagedFields_15 rfl (lv_at hl 2 rfl) ?_
    refine hx_Vi (rest := []) S X (c_X7_stagedNow l G ad σ (t) hI ht hk3) gX7_stagedFields_X7_stagedNow rfl (n := 1) (by decide +kernel) rfl ⟨(Nat.le_of_ble_eq_true rfl), (Nat.le_of_ble_eq_true rfl)⟩ (hx_recvL (q0 := 0) (ci := 7) X rfl (mW_0 _ _ _)) hl.1 rfl (Nat.le_of_ble_eq_true rfl) dX7_stagedFields_16 ⟨(Nat.le_of_ble_eq_true rfl), (Nat.le_of_ble_eq_true rfl)⟩ (fun r wd1 H locs hp X => ?_)
    obtain ⟨rfl, rfl⟩ := hp
    exact hx_iret S X hr hlk (Nat.le_of_ble_eq_true rfl) (Nat.le_of_ble_eq_true rfl) (by simp [M_stagedFields, wif_t, wif_f, w1, w2, hct]) dX7_stagedFields_19
