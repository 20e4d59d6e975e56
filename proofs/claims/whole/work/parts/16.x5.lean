set_option maxRecDepth 100000 in
set_option maxHeartbeats 4000000 in
theorem c_X6_historyOf (l : Launch) (G : hG) (L : List Nat) (f : Nat → va_E) (ad : xAd) (σ : Sg) (x : Int32) (hI : Inv σ) (hR : RX G L f ad σ)  : hMq l G yX6_historyOf wsX6_historyOf ({ frames := 0, cells := 0, slots := 0, locals := 0 } : Room) (va_pl L f) [.ref (ad 0 0 0 0), .int (x)] (fun r w => (∀ t, t < nC σ → x = nI t → r = some (ad 4 t 0 0)) ∧ (¬ isC σ x → r = none) ∧ w = va_pl L f) := by
  refine hMq.of (cc := cX6_historyOf) (maxL := 2) (some (.object "LiveUpgrader$ClassHistory")) RX6 rfl (by decide +kernel) rfl (Nat.le_of_ble_eq_true rfl) ?_
  intro p e s m args below meth c S hr hlk X ls hl
  have hx := S.1
  have hb := S.2.1
  have hown := S.2.2.2.1
  have hts := S.2.2.2.2
  have hl : lv_has ls 2 [(0, .ref (ad 0 0 0 0)), (1, .int (x))] := hl
  have hin6 : ∀ w ∈ wsX60, w ∈ wsX6_historyOf := by decide +kernel
  have hC6 : nC σ ≤ 6 := hI.1.2
  have hO24 : nO σ ≤ 24 := hI.2.1.2
  obtain ⟨m0, f0⟩ := rx0 hR
  obtain ⟨g1, m1, f1, e1⟩ := rx1 hR
  obtain ⟨g2, m2, f2, e2⟩ := rx2 hR
  obtain ⟨g3, m3, f3, e3⟩ := rx3 hR
  refine lv_iload_n hx hb dX6_historyOf_0 rfl (lv_at hl 1 rfl) ?_
  refine lv_if_lt (tgt := 12) hx hb dX6_historyOf_1 (by decide) (fun c1 => ?_) (fun c1 => ?_)
  · skip
    refine lv_null hx hb dX6_historyOf_12 ?_
    exact hx_qret none rfl S X hr hlk (Nat.le_of_ble_eq_true rfl) (Nat.le_of_ble_eq_true rfl) ⟨fun t ht e => absurd c1 (by rw [e]; exact nI_pos (by omega)), fun _ => rfl, rfl⟩ dX6_historyOf_13
  · skip
    refine lv_iload_n hx hb dX6_historyOf_4 rfl (lv_at hl 1 rfl) ?_
    refine lv_aload_n hx hb dX6_historyOf_5 rfl (lv_at hl 0 rfl) ?_
    refine xp_get S X (ci := 6) m0 f0 rfl hin6 1 (by decide) (by decide +kernel) rfl dX6_historyOf_6 ?_
    refine lv_icmp_lt (tgt := 14) hx hb dX6_historyOf_9 (by decide) (fun c9 => ?_) (fun c9 => ?_)
    · skip
      obtain ⟨t, ht, rfl⟩ := (in_0 (n := nC σ) (by omega) x).mp ⟨Int32.not_lt.mp c1, c9⟩
      refine lv_aload_n hx hb dX6_historyOf_14 rfl (lv_at hl 0 rfl) ?_
      refine xp_get S X (ci := 6) m0 f0 rfl hin6 0 (by decide) (by decide +kernel) rfl dX6_historyOf_15 ?_
      refine lv_iload_n hx hb dX6_historyOf_18 rfl (lv_at hl 1 rfl) ?_
      refine xp_ald S X 3 rfl rfl m1 f1 (j := t) (by omega) (by decide) (x := .ref (ad 4 t 0 0)) (by rw [e1 t ht]; rfl) dX6_historyOf_19 ?_
      exact hx_qret (some (ad 4 t 0 0)) rfl S X hr hlk (Nat.le_of_ble_eq_true rfl) (Nat.le_of_ble_eq_true rfl) ⟨fun t2 h9 e => by rw [(nI_eq (a := t) (b := t2) (by omega) (by omega)).mp e], fun q => absurd ⟨t, ht, rfl⟩ q, rfl⟩ dX6_historyOf_20
    · skip
      refine lv_null hx hb dX6_historyOf_12 ?_
      exact hx_qret none rfl S X hr hlk (Nat.le_of_ble_eq_true rfl) (Nat.le_of_ble_eq_true rfl) ⟨fun t ht e => absurd (by rw [e]; exact nI_lt (a := t) (b := nC σ) ht (by omega)) c9, fun _ => rfl, rfl⟩ dX6_historyOf_13

set_option maxRecDepth 100000 in
set_option maxHeartbeats 4000000 in
theorem c_X6_stackOf (l : Launch) (G : hG) (L : List Nat) (f : Nat → va_E) (ad : xAd) (σ : Sg) (x : Int32) (hI : Inv σ) (hR : RX G L f ad σ)  : hMq l G yX6_stackOf wsX6_stackOf ({ frames := 0, cells := 0, slots := 0, locals := 0 } : Room) (va_pl L f) [.ref (ad 0 0 0 0), .int (x)] (fun r w => (∀ t, t < 4 → x = nI t → r = some (ad 10 t 0 0)) ∧ (¬ isT x → r = none) ∧ w = va_pl L f) := by
  refine hMq.of (cc := cX6_stackOf) (maxL := 2) (some (.object "LiveUpgrader$CallStack")) RX6 rfl (by decide +kernel) rfl (Nat.le_of_ble_eq_true rfl) ?_
  intro p e s m args below meth c S hr hlk X ls hl
  have hx := S.1
  have hb := S.2.1
  have hown := S.2.2.2.1
  have hts := S.2.2.2.2
  have hl : lv_has ls 2 [(0, .ref (ad 0 0 0 0)), (1, .int (x))] := hl
  have hin6 : ∀ w ∈ wsX60, w ∈ wsX6_stackOf := by decide +kernel
  have hC6 : nC σ ≤ 6 := hI.1.2
  have hO24 : nO σ ≤ 24 := hI.2.1.2
  obtain ⟨m0, f0⟩ := rx0 hR
  obtain ⟨g1, m1, f1, e1⟩ := rx1 hR
  obtain ⟨g2, m2, f2, e2⟩ := rx2 hR
  obtain ⟨g3, m3, f3, e3⟩ := rx3 hR
  refine lv_iload_n hx hb dX6_stackOf_0 rfl (lv_at hl 1 rfl) ?_
  refine lv_if_lt (tgt := 9) hx hb dX6_stackOf_1 (by decide) (fun c1 => ?_) (fun c1 => ?_)
  · skip
    refine lv_null hx hb dX6_stackOf_9 ?_
    exact hx_qret none rfl S X hr hlk (Nat.le_of_ble_eq_true rfl) (Nat.le_of_ble_eq_true rfl) ⟨fun t ht e => absurd c1 (by rw [e]; exact nI_pos (by omega)), fun _ => rfl, rfl⟩ dX6_stackOf_10
  · skip
    refine lv_iload_n hx hb dX6_stackOf_4 rfl (lv_at hl 1 rfl) ?_
    refine lv_iconst (v := 4) hx hb dX6_stackOf_5 (by decide) ?_
    refine lv_icmp_lt (tgt := 11) hx hb dX6_stackOf_6 (by decide) (fun c6 => ?_) (fun c6 => ?_)
    · skip
      obtain ⟨t, ht, rfl⟩ := (in_0 (n := 4) (by omega) x).mp ⟨Int32.not_lt.mp c1, c6⟩
      refine lv_aload_n hx hb dX6_stackOf_11 rfl (lv_at hl 0 rfl) ?_
      refine xp_get S X (ci := 6) m0 f0 rfl hin6 2 (by decide) (by decide +kernel) rfl dX6_stackOf_12 ?_
      refine lv_iload_n hx hb dX6_stackOf_15 rfl (lv_at hl 1 rfl) ?_
      refine xp_ald S X 2 rfl rfl m2 f2 (j := t) (by omega) (by decide) (x := .ref (ad 10 t 0 0)) (by rw [e2 t ht]; rfl) dX6_stackOf_16 ?_
      exact hx_qret (some (ad 10 t 0 0)) rfl S X hr hlk (Nat.le_of_ble_eq_true rfl) (Nat.le_of_ble_eq_true rfl) ⟨fun t2 h9 e => by rw [(nI_eq (a := t) (b := t2) (by omega) (by omega)).mp e], fun q => absurd ⟨t, ht, rfl⟩ q, rfl⟩ dX6_stackOf_17
    · skip
      refine lv_null hx hb dX6_stackOf_9 ?_
      exact hx_qret none rfl S X hr hlk (Nat.le_of_ble_eq_true rfl) (Nat.le_of_ble_eq_true rfl) ⟨fun t ht e => absurd (by rw [e]; exact nI_lt (a := t) (b := 4) ht (by omega)) c6, fun _ => rfl, rfl⟩ dX6_stackOf_10

set_option maxRecDepth 100000 in
set_option maxHeartbeats 4000000 in
theorem c_X6_existingObject (l : Launch) (G : hG) (L : List Nat) (f : Nat → va_E) (ad : xAd) (σ : Sg) (x : Int32) (hI : Inv σ) (hR : RX G L f ad σ)  : hMq l G yX6_existingObject wsX6_existingObject ({ frames := 0, cells := 0, slots := 0, locals := 0 } : Room) (va_pl L f) [.ref (ad 0 0 0 0), .int (x)] (fun r w => (∀ o, o < nO σ → σ 6 o = 1 → x = nI o → r = some (ad 13 o 0 0)) ∧ (¬ isO σ x → r = none) ∧ w = va_pl L f) := by
  refine hMq.of (cc := cX6_existingObject) (maxL := 2) (some (.object "LiveUpgrader$StoredObject")) RX6 rfl (by decide +kernel) rfl (Nat.le_of_ble_eq_true rfl) ?_
  intro p e s m args below meth c S hr hlk X ls hl
  have hx := S.1
  have hb := S.2.1
  have hown := S.2.2.2.1
  have hts := S.2.2.2.2
  have hl : lv_has ls 2 [(0, .ref (ad 0 0 0 0)), (1, .int (x))] := hl
  have hin6 : ∀ w ∈ wsX60, w ∈ wsX6_existingObject := by decide +kernel
  have hC6 : nC σ ≤ 6 := hI.1.2
  have hO24 : nO σ ≤ 24 := hI.2.1.2
  obtain ⟨m0, f0⟩ := rx0 hR
  obtain ⟨g1, m1, f1, e1⟩ := rx1 hR
  obtain ⟨g2, m2, f2, e2⟩ := rx2 hR
  obtain ⟨g3, m3, f3, e3⟩ := rx3 hR
  refine lv_iload_n hx hb dX6_existingObject_0 rfl (lv_at hl 1 rfl) ?_
  refine lv_if_lt (tgt := 12) hx hb dX6_existingObject_1 (by decide) (fun c1 => ?_) (fun c1 => ?_)
  · skip
    refine lv_null hx hb dX6_existingObject_12 ?_
    exact hx_qret none rfl S X hr hlk (Nat.le_of_ble_eq_true rfl) (Nat.le_of_ble_eq_true rfl) ⟨fun t ht _ e => absurd c1 (by rw [e]; exact nI_pos (by omega)), fun _ => rfl, rfl⟩ dX6_existingObject_13
  · skip
    refine lv_iload_n hx hb dX6_existingObject_4 rfl (lv_at hl 1 rfl) ?_
    refine lv_aload_n hx hb dX6_existingObject_5 rfl (lv_at hl 0 rfl) ?_
    refine xp_get S X (ci := 6) m0 f0 rfl hin6 4 (by decide) (by decide +kernel) rfl dX6_existingObject_6 ?_
    refine lv_icmp_lt (tgt := 14) hx hb dX6_existingObject_9 (by decide) (fun c9 => ?_) (fun c9 => ?_)
    · skip
      obtain ⟨o, ho, rfl⟩ := (in_0 (by omega) x).mp ⟨Int32.not_lt.mp c1, c9⟩
      refine lv_aload_n hx hb dX6_existingObject_14 rfl (lv_at hl 0 rfl) ?_
      refine xp_get S X (ci := 6) m0 f0 rfl hin6 3 (by decide) (by decide +kernel) rfl dX6_existingObject_15 ?_
      refine lv_iload_n hx hb dX6_existingObject_18 rfl (lv_at hl 1 rfl) ?_
      refine xp_ald S X 7 rfl rfl m3 f3 (j := o) (by omega) (by decide) (x := va_rf (g3 o)) (rfl) dX6_existingObject_19 ?_
      exact hx_qret (g3 o) rfl S X hr hlk (Nat.le_of_ble_eq_true rfl) (Nat.le_of_ble_eq_true rfl) ⟨fun o2 h2 hx2 e => by have h3 := (nI_eq (by omega) (by omega)).mp e; subst h3; exact (e3 _ ho).1 hx2, fun q => (e3 o ho).2 (fun hx2 => q ⟨o, ⟨ho, hx2⟩, rfl⟩), rfl⟩ dX6_existingObject_20
    · skip
      refine lv_null hx hb dX6_existingObject_12 ?_
      exact hx_qret none rfl S X hr hlk (Nat.le_of_ble_eq_true rfl) (Nat.le_of_ble_eq_true rfl) ⟨fun t ht _ e => absurd (by rw [e]; exact nI_lt ht (by omega)) c9, fun _ => rfl, rfl⟩ dX6_existingObject_13

set_option maxRecDepth 100000 in
set_option maxHeartbeats 4000000 in
theorem c_X6_currentVersion (l : Launch) (G : hG) (L : List Nat) (f : Nat → va_E) (ad : xAd) (σ : Sg) (type : Int32) (hI : Inv σ) (hR : RX G L f ad σ)  : hMi l G yX6_currentVersion wsX6_currentVersion ({ frames := 1, cells := 0, slots := 0, locals := 21 } : Room) (va_pl L f) [.ref (ad 0 0 0 0), .int (type)] (fun r w => r = (M_currentVersion σ type).1 ∧ XPo G (ad 0 0 0 0) (M_currentVersion σ type).2 w) := by
  refine hMi.of (cc := cX6_currentVersion) (maxL := 3) (some .int) RX6 rfl (by decide +kernel) rfl (Nat.le_of_ble_eq_true rfl) ?_
  intro p e s m args below meth c S hr hlk X ls hl
  have hx := S.1
  have hb := S.2.1
  have hown := S.2.2.2.1
  have hts := S.2.2.2.2
  have hl : lv_has ls 3 [(0, .ref (ad 0 0 0 0)), (1, .int (type))] := hl
  have hin1 : ∀ w ∈ wsX10, w ∈ wsX6_currentVersion := by decide +kernel
  have hin6 : ∀ w ∈ wsX60, w ∈ wsX6_currentVersion := by decide +kernel
  have hC6 : nC σ ≤ 6 := hI.1.2
  have hO24 : nO σ ≤ 24 := hI.2.1.2
  obtain ⟨m0, f0⟩ := rx0 hR
  obtain ⟨g1, m1, f1, e1⟩ := rx1 hR
  obtain ⟨g2, m2, f2, e2⟩ := rx2 hR
  obtain ⟨g3, m3, f3, e3⟩ := rx3 hR
  refine lv_aload_n hx hb dX6_currentVersion_0 rfl (lv_at hl 0 rfl) ?_
  refine lv_iload_n hx hb dX6_currentVersion_1 rfl (lv_at hl 1 rfl) ?_
  refine hx_Vq (rest := []) S X (c_X6_historyOf l G L f ad σ (type) hI hR) gX6_currentVersion_X6_historyOf rfl (n := 1) (by decide +kernel) rfl ⟨(Nat.le_of_ble_eq_true rfl), (Nat.le_of_ble_eq_true rfl)⟩ (xp_recv (ci := 6) X rfl m0 f0) hl.1 rfl (Nat.le_of_ble_eq_true rfl) dX6_currentVersion_2 ⟨(Nat.le_of_ble_eq_true rfl), (Nat.le_of_ble_eq_true rfl)⟩ (fun r wd1 H locs hp X => ?_)
  obtain ⟨hr2, hs2, rfl⟩ := hp
  by_cases hC : isC σ (type)
  · skip
    have hC' := hC
    obtain ⟨t, ht, rfl⟩ := hC
    have hct : (nI t).toNatClampNeg = t := nI_clamp (by omega)
    obtain ⟨⟨hk0, hk1, hk2⟩, hks, hkv⟩ := hI.2.2.1 t ht
    obtain ⟨hm4, hf4⟩ := rx4 hR ht
    obtain ⟨gf, hm5, hf5, he5⟩ := rx5 hR ht
    obtain ⟨gc, hm6, hf6, he6⟩ := rx6 hR ht
    refine hx_eq (show r = some (ad 4 t 0 0) from hr2 t ht rfl) ?_
    refine lv_astore_n (lv' := [(2, .ref (ad 4 t 0 0)), (0, .ref (ad 0 0 0 0)), (1, .int (nI (t)))]) hx hb dX6_currentVersion_5 rfl hl (by decide) rfl (fun ls hl => ?_)
    refine lv_aload_n hx hb dX6_currentVersion_6 rfl (lv_at hl 0 rfl) ?_
    refine lv_ifnonnull (tgt := 13) hx hb dX6_currentVersion_7 (by decide) ?_
    refine lv_aload_n hx hb dX6_currentVersion_13 rfl (lv_at hl 0 rfl) ?_
    refine xp_getN (host := RX6) S X (ci := 1) hm4 hf4 rfl hin1 3 (by decide) (by decide +kernel) rfl dX6_currentVersion_14 ?_
    have hcur := pk_sub (a := cnt σ t) (b := 1) hk1
    exact hx_iret S X hr hlk (Nat.le_of_ble_eq_true rfl) (Nat.le_of_ble_eq_true rfl) ⟨by rw [M_currentVersion, wif_t hC', show cN (nI t) = t from hct]; exact hcur.symm, by rw [M_currentVersion, wif_t hC']; exact ⟨L, f, ad, rfl, hR, rfl⟩⟩ dX6_currentVersion_17
  · skip
    refine hx_eq (show r = none from hs2 hC) ?_
    refine lv_astore_nN (lv' := [(2, .null), (0, .ref (ad 0 0 0 0)), (1, .int (type))]) hx hb dX6_currentVersion_5 rfl hl (by decide) rfl (fun ls hl => ?_)
    refine lv_aload_nN hx hb dX6_currentVersion_6 rfl (lv_at hl 0 rfl) ?_
    refine lv_ifnonnullN hx hb dX6_currentVersion_7 ?_
    refine lv_ldc (v := -2000001) hx hb hown (hts (Cond.constant RX6 41 (-2000001)) (by decide +kernel)) dX6_currentVersion_10 ?_
    exact hx_iret S X hr hlk (Nat.le_of_ble_eq_true rfl) (Nat.le_of_ble_eq_true rfl) ⟨by rw [M_currentVersion, wif_f hC], by rw [M_currentVersion, wif_f hC]; exact ⟨L, f, ad, rfl, hR, rfl⟩⟩ dX6_currentVersion_12

set_option maxRecDepth 100000 in
set_option maxHeartbeats 4000000 in
theorem c_X6_fields (l : Launch) (G : hG) (L : List Nat) (f : Nat → va_E) (ad : xAd) (σ : Sg) (type version : Int32) (hI : Inv σ) (hR : RX G L f ad σ)  : hMi l G yX6_fields wsX6_fields ({ frames := 1, cells := 0, slots := 0, locals := 21 } : Room) (va_pl L f) [.ref (ad 0 0 0 0), .int (type), .int (version)] (fun r w => r = (M_fields σ type version).1 ∧ XPo G (ad 0 0 0 0) (M_fields σ type version).2 w) := by
  refine hMi.of (cc := cX6_fields) (maxL := 4) (some .int) RX6 rfl (by decide +kernel) rfl (Nat.le_of_ble_eq_true rfl) ?_
  intro p e s m args below meth c S hr hlk X ls hl
  have hx := S.1
  have hb := S.2.1
  have hown := S.2.2.2.1
  have hts := S.2.2.2.2
  have hl : lv_has ls 4 [(0, .ref (ad 0 0 0 0)), (1, .int (type)), (2, .int (version))] := hl
  have hin1 : ∀ w ∈ wsX10, w ∈ wsX6_fields := by decide +kernel
  have hin6 : ∀ w ∈ wsX60, w ∈ wsX6_fields := by decide +kernel
  have hC6 : nC σ ≤ 6 := hI.1.2
  have hO24 : nO σ ≤ 24 := hI.2.1.2
  obtain ⟨m0, f0⟩ := rx0 hR
  obtain ⟨g1, m1, f1, e1⟩ := rx1 hR
  obtain ⟨g2, m2, f2, e2⟩ := rx2 hR
  obtain ⟨g3, m3, f3, e3⟩ := rx3 hR
  refine lv_aload_n hx hb dX6_fields_0 rfl (lv_at hl 0 rfl) ?_
  refine lv_iload_n hx hb dX6_fields_1 rfl (lv_at hl 1 rfl) ?_
  refine hx_Vq (rest := []) S X (c_X6_historyOf l G L f ad σ (type) hI hR) gX6_fields_X6_historyOf rfl (n := 1) (by decide +kernel) rfl ⟨(Nat.le_of_ble_eq_true rfl), (Nat.le_of_ble_eq_true rfl)⟩ (xp_recv (ci := 6) X rfl m0 f0) hl.1 rfl (Nat.le_of_ble_eq_true rfl) dX6_fields_2 ⟨(Nat.le_of_ble_eq_true rfl), (Nat.le_of_ble_eq_true rfl)⟩ (fun r wd1 H locs hp X => ?_)
  obtain ⟨hr2, hs2, rfl⟩ := hp
  by_cases hC : isC σ (type)
  · skip
    have hC' := hC
    obtain ⟨t, ht, rfl⟩ := hC
    have hct : (nI t).toNatClampNeg = t := nI_clamp (by omega)
    obtain ⟨⟨hk0, hk1, hk2⟩, hks, hkv⟩ := hI.2.2.1 t ht
    obtain ⟨hm4, hf4⟩ := rx4 hR ht
    obtain ⟨gf, hm5, hf5, he5⟩ := rx5 hR ht
    obtain ⟨gc, hm6, hf6, he6⟩ := rx6 hR ht
    refine hx_eq (show r = some (ad 4 t 0 0) from hr2 t ht rfl) ?_
    refine lv_astore_n (lv' := [(3, .ref (ad 4 t 0 0)), (0, .ref (ad 0 0 0 0)), (1, .int (nI (t))), (2, .int (version))]) hx hb dX6_fields_5 rfl hl (by decide) rfl (fun ls hl => ?_)
    refine lv_aload_n hx hb dX6_fields_6 rfl (lv_at hl 0 rfl) ?_
    refine lv_ifnonnull (tgt := 13) hx hb dX6_fields_7 (by decide) ?_
    refine lv_iload_n hx hb dX6_fields_13 rfl (lv_at hl 3 rfl) ?_
    refine lv_if_lt (tgt := 25) hx hb dX6_fields_14 (by decide) (fun c14 => ?_) (fun c14 => ?_)
    · skip
      have hnv : ¬ ∃ v, v < cnt σ t ∧ version = nI v := fun ⟨v, hv, e⟩ => absurd c14 (by rw [e]; exact nI_pos (by omega))
      refine lv_ldc (v := -2000002) hx hb hown (hts (Cond.constant RX6 45 (-2000002)) (by decide +kernel)) dX6_fields_25 ?_
      exact hx_iret S X hr hlk (Nat.le_of_ble_eq_true rfl) (Nat.le_of_ble_eq_true rfl) ⟨by simp [M_fields, wif_t, wif_f, hC', hct, c14, hnv], by simp [M_fields, wif_t, wif_f, hC', hct, c14, hnv]; exact ⟨L, f, ad, rfl, hR, rfl⟩⟩ dX6_fields_27
    · skip
      refine lv_iload_n hx hb dX6_fields_17 rfl (lv_at hl 3 rfl) ?_
      refine lv_aload_n hx hb dX6_fields_18 rfl (lv_at hl 0 rfl) ?_
      refine xp_getN (host := RX6) S X (ci := 1) hm4 hf4 rfl hin1 3 (by decide) (by decide +kernel) rfl dX6_fields_19 ?_
      refine lv_icmp_le (tgt := 28) hx hb dX6_fields_22 (by decide) (fun c22 => ?_) (fun c22 => ?_)
      · skip
        have hvv : ∃ v, v < cnt σ t ∧ version = nI v := by obtain ⟨v, hv, e⟩ := (in_1 (n := cnt σ t - 1) (by omega) version).mp ⟨Int32.not_lt.mp c14, c22⟩; exact ⟨v, by omega, e⟩
        have hvv' := hvv
        obtain ⟨v, hv, rfl⟩ := hvv
        have hcv : (nI v).toNatClampNeg = v := nI_clamp (by omega)
        refine lv_aload_n hx hb dX6_fields_28 rfl (lv_at hl 0 rfl) ?_
        refine lv_iload_n hx hb dX6_fields_29 rfl (lv_at hl 3 rfl) ?_
        refine hx_Vi (rest := []) S X (c_X1_fieldSet l G L f (ad 4 t 0 0) (ad 5 t 0 0) (ad 6 t 0 0) (cnt σ t - 1) (v) (nI (t)) (σ 1 (162 * t + 1)) (gf) hm4 hf4 hm5 hf5 (by omega)) gX6_fields_X1_fieldSet rfl (n := 1) (by decide +kernel) rfl ⟨(Nat.le_of_ble_eq_true rfl), (Nat.le_of_ble_eq_true rfl)⟩ (xp_recv (ci := 1) X rfl hm4 hf4) hl.1 rfl (Nat.le_of_ble_eq_true rfl) dX6_fields_30 ⟨(Nat.le_of_ble_eq_true rfl), (Nat.le_of_ble_eq_true rfl)⟩ (fun r wd1 H locs hp X => ?_)
        obtain ⟨rfl, rfl⟩ := hp
        refine hx_ei (show _ = σ 1 (162 * t + (2 + v)) from he5 (v) (by omega)) ?_
        exact hx_iret S X hr hlk (Nat.le_of_ble_eq_true rfl) (Nat.le_of_ble_eq_true rfl) ⟨by simp [M_fields, wif_t, wif_f, hC', hct, c14, hvv', hcv], by simp [M_fields, wif_t, wif_f, hC', hct, c14, hvv', hcv]; exact ⟨L, f, ad, rfl, hR, rfl⟩⟩ dX6_fields_33
      · skip
        have hnv : ¬ ∃ v, v < cnt σ t ∧ version = nI v := fun ⟨v, hv, e⟩ => c22 (by rw [e]; exact nI_le (a := v) (b := cnt σ t - 1) (by omega) (by omega))
        refine lv_ldc (v := -2000002) hx hb hown (hts (Cond.constant RX6 45 (-2000002)) (by decide +kernel)) dX6_fields_25 ?_
        exact hx_iret S X hr hlk (Nat.le_of_ble_eq_true rfl) (Nat.le_of_ble_eq_true rfl) ⟨by simp [M_fields, wif_t, wif_f, hC', hct, c14, c22, hnv], by simp [M_fields, wif_t, wif_f, hC', hct, c14, c22, hnv]; exact ⟨L, f, ad, rfl, hR, rfl⟩⟩ dX6_fields_27
  · skip
    refine hx_eq (show r = none from hs2 hC) ?_
    refine lv_astore_nN (lv' := [(3, .null), (0, .ref (ad 0 0 0 0)), (1, .int (type)), (2, .int (version))]) hx hb dX6_fields_5 rfl hl (by decide) rfl (fun ls hl => ?_)
    refine lv_aload_nN hx hb dX6_fields_6 rfl (lv_at hl 0 rfl) ?_
    refine lv_ifnonnullN hx hb dX6_fields_7 ?_
    refine lv_ldc (v := -2000001) hx hb hown (hts (Cond.constant RX6 41 (-2000001)) (by decide +kernel)) dX6_fields_10 ?_
    exact hx_iret S X hr hlk (Nat.le_of_ble_eq_true rfl) (Nat.le_of_ble_eq_true rfl) ⟨by simp [M_fields, wif_t, wif_f, hC], by simp [M_fields, wif_t, wif_f, hC]; exact ⟨L, f, ad, rfl, hR, rfl⟩⟩ dX6_fields_12

set_option maxRecDepth 100000 in
set_option maxHeartbeats 4000000 in
theorem c_X6_stagedFields (l : Launch) (G : hG) (L : List Nat) (f : Nat → va_E) (ad : xAd) (σ : Sg) (type : Int32) (hI : Inv σ) (hR : RX G L f ad σ)  : hMi l G yX6_stagedFields wsX6_stagedFields ({ frames := 2, cells := 0, slots := 0, locals := 41 } : Room) (va_pl L f) [.ref (ad 0 0 0 0), .int (type)] (fun r w => r = (M_stagedFields σ type).1 ∧ XPo G (ad 0 0 0 0) (M_stagedFields σ type).2 w) := by
  refine hMi.of (cc := cX6_stagedFields) (maxL := 3) (some .int) RX6 rfl (by decide +kernel) rfl (Nat.le_of_ble_eq_true rfl) ?_
  intro p e s m args below meth c S hr hlk X ls hl
  have hx := S.1
  have hb := S.2.1
  have hown := S.2.2.2.1
  have hts := S.2.2.2.2
  have hl : lv_has ls 3 [(0, .ref (ad 0 0 0 0)), (1, .int (type))] := hl
  have hin1 : ∀ w ∈ wsX10, w ∈ wsX6_stagedFields := by decide +kernel
  have hin6 : ∀ w ∈ wsX60, w ∈ wsX6_stagedFields := by decide +kernel
  have hC6 : nC σ ≤ 6 := hI.1.2
  have hO24 : nO σ ≤ 24 := hI.2.1.2
  obtain ⟨m0, f0⟩ := rx0 hR
  obtain ⟨g1, m1, f1, e1⟩ := rx1 hR
  obtain ⟨g2, m2, f2, e2⟩ := rx2 hR
  obtain ⟨g3, m3, f3, e3⟩ := rx3 hR
  refine lv_aload_n hx hb dX6_stagedFields_0 rfl (lv_at hl 0 rfl) ?_
  refine lv_iload_n hx hb dX6_stagedFields_1 rfl (lv_at hl 1 rfl) ?_
  refine hx_Vq (rest := []) S X (c_X6_historyOf l G L f ad σ (type) hI hR) gX6_stagedFields_X6_historyOf rfl (n := 1) (by decide +kernel) rfl ⟨(Nat.le_of_ble_eq_true rfl), (Nat.le_of_ble_eq_true rfl)⟩ (xp_recv (ci := 6) X rfl m0 f0) hl.1 rfl (Nat.le_of_ble_eq_true rfl) dX6_stagedFields_2 ⟨(Nat.le_of_ble_eq_true rfl), (Nat.le_of_ble_eq_true rfl)⟩ (fun r wd1 H locs hp X => ?_)
  obtain ⟨hr2, hs2, rfl⟩ := hp
  by_cases hC : isC σ (type)
  · skip
    have hC' := hC
    obtain ⟨t, ht, rfl⟩ := hC
    have hct : (nI t).toNatClampNeg = t := nI_clamp (by omega)
    obtain ⟨⟨hk0, hk1, hk2⟩, hks, hkv⟩ := hI.2.2.1 t ht
    obtain ⟨hm4, hf4⟩ := rx4 hR ht
    obtain ⟨gf, hm5, hf5, he5⟩ := rx5 hR ht
    obtain ⟨gc, hm6, hf6, he6⟩ := rx6 hR ht
    refine hx_eq (show r = some (ad 4 t 0 0) from hr2 t ht rfl) ?_
    refine lv_astore_n (lv' := [(2, .ref (ad 4 t 0 0)), (0, .ref (ad 0 0 0 0)), (1, .int (nI (t)))]) hx hb dX6_stagedFields_5 rfl hl (by decide) rfl (fun ls hl => ?_)
    refine lv_aload_n hx hb dX6_stagedFields_6 rfl (lv_at hl 0 rfl) ?_
    refine lv_ifnonnull (tgt := 13) hx hb dX6_stagedFields_7 (by decide) ?_
    refine lv_aload_n hx hb dX6_stagedFields_13 rfl (lv_at hl 0 rfl) ?_
    refine xp_getN (host := RX6) S X (ci := 1) hm4 hf4 rfl hin1 4 (by decide) (by decide +kernel) rfl dX6_stagedFields_14 ?_
    refine lv_if_ne (tgt := 23) hx hb dX6_stagedFields_17 (by decide) (fun c17 => ?_) (fun c17 => ?_)
    · skip
      have hk3 : cnt σ t ≤ 7 := hks.elim (fun q => absurd q c17) (fun q => q.2)
      have hws1 : ws σ (nI t) = 0 := by rw [ws, wif_t hC', show cN (nI t) = t from hct, wif_f c17]
      refine lv_aload_n hx hb dX6_stagedFields_23 rfl (lv_at hl 0 rfl) ?_
      refine hx_Vi (rest := []) S X (c_X1_stagedSet l G L f (ad 4 t 0 0) (ad 5 t 0 0) (ad 6 t 0 0) (cnt σ t - 1) (nI (t)) (σ 1 (162 * t + 1)) (gf) hm4 hf4 hm5 hf5 (by omega)) gX6_stagedFields_X1_stagedSet rfl (n := 0) (by decide +kernel) rfl ⟨(Nat.le_of_ble_eq_true rfl), (Nat.le_of_ble_eq_true rfl)⟩ (xp_recv (ci := 1) X rfl hm4 hf4) hl.1 rfl (Nat.le_of_ble_eq_true rfl) dX6_stagedFields_24 ⟨(Nat.le_of_ble_eq_true rfl), (Nat.le_of_ble_eq_true rfl)⟩ (fun r wd1 H locs hp X => ?_)
      obtain ⟨rfl, rfl⟩ := hp
      refine hx_ei (show _ = sset σ t from by rw [show cnt σ t - 1 + 1 = cnt σ t by omega]; exact he5 _ (by omega)) ?_
      exact hx_iret S X hr hlk (Nat.le_of_ble_eq_true rfl) (Nat.le_of_ble_eq_true rfl) ⟨by simp [M_stagedFields, wif_t, wif_f, hC', hct, c17, hws1], by simp [M_stagedFields, wif_t, wif_f, hC', hct, c17, hws1]; exact ⟨L, f, ad, rfl, hR, rfl⟩⟩ dX6_stagedFields_27
    · skip
      have hws0 : ws σ (nI t) = -2000008 := by rw [ws, wif_t hC', show cN (nI t) = t from hct, wif_t c17]
      refine lv_ldc (v := -2000008) hx hb hown (hts (Cond.constant RX6 59 (-2000008)) (by decide +kernel)) dX6_stagedFields_20 ?_
      exact hx_iret S X hr hlk (Nat.le_of_ble_eq_true rfl) (Nat.le_of_ble_eq_true rfl) ⟨by simp [M_stagedFields, wif_t, wif_f, hC', hct, c17, hws0], by simp [M_stagedFields, wif_t, wif_f, hC', hct, c17, hws0]; exact ⟨L, f, ad, rfl, hR, rfl⟩⟩ dX6_stagedFields_22
  · skip
    refine hx_eq (show r = none from hs2 hC) ?_
    have hws2 : ws σ type = -2000001 := by rw [ws, wif_f hC]
    refine lv_astore_nN (lv' := [(2, .null), (0, .ref (ad 0 0 0 0)), (1, .int (type))]) hx hb dX6_stagedFields_5 rfl hl (by decide) rfl (fun ls hl => ?_)
    refine lv_aload_nN hx hb dX6_stagedFields_6 rfl (lv_at hl 0 rfl) ?_
    refine lv_ifnonnullN hx hb dX6_stagedFields_7 ?_
    refine lv_ldc (v := -2000001) hx hb hown (hts (Cond.constant RX6 41 (-2000001)) (by decide +kernel)) dX6_stagedFields_10 ?_
    exact hx_iret S X hr hlk (Nat.le_of_ble_eq_true rfl) (Nat.le_of_ble_eq_true rfl) ⟨by simp [M_stagedFields, wif_t, wif_f, hC, hws2], by simp [M_stagedFields, wif_t, wif_f, hC, hws2]; exact ⟨L, f, ad, rfl, hR, rfl⟩⟩ dX6_stagedFields_12
