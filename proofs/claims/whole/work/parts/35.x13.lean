set_option maxRecDepth 100000 in
set_option maxHeartbeats 4000000 in
theorem c_X6_outdatedObject (l : Launch) (G : hG) (L : List Nat) (f : Nat → va_E) (ad : xAd) (σ : Sg) (t o : Nat) (hI : Inv σ) (hR : RX G L f ad σ) (ht : t < nC σ) (ho : o < nO σ) : hMq l G yX6_outdatedObject wsX6_outdatedObject ({ frames := 1, cells := 0, slots := 0, locals := 21 } : Room) (va_pl L f) [.ref (ad 0 0 0 0), .int (nI (o)), .ref (ad 4 t 0 0)] (fun r w => (outP σ (nI t) o → r = some (ad 13 o 0 0)) ∧ (¬ outP σ (nI t) o → r = none) ∧ w = va_pl L f) := by
  refine hMq.of (cc := cX6_outdatedObject) (maxL := 4) (some (.object "LiveUpgrader$StoredObject")) RX6 rfl (by decide +kernel) rfl (Nat.le_of_ble_eq_true rfl) ?_
  intro p e s m args below meth c S hr hlk X ls hl
  have hx := S.1
  have hb := S.2.1
  have hown := S.2.2.2.1
  have hts := S.2.2.2.2
  have hl : lv_has ls 4 [(0, .ref (ad 0 0 0 0)), (1, .int (nI (o))), (2, .ref (ad 4 t 0 0))] := hl
  have hin1 : ∀ w ∈ wsX10, w ∈ wsX6_outdatedObject := by decide +kernel
  have hin5 : ∀ w ∈ wsX50, w ∈ wsX6_outdatedObject := by decide +kernel
  have hin6 : ∀ w ∈ wsX60, w ∈ wsX6_outdatedObject := by decide +kernel
  have hC6 : nC σ ≤ 6 := hI.1.2
  have hO24 : nO σ ≤ 24 := hI.2.1.2
  obtain ⟨m0, f0⟩ := rx0 hR
  obtain ⟨g1, m1, f1, e1⟩ := rx1 hR
  obtain ⟨g2, m2, f2, e2⟩ := rx2 hR
  obtain ⟨g3, m3, f3, e3⟩ := rx3 hR
  obtain ⟨⟨hk0, hk1, hk2⟩, hks, hkv⟩ := hI.2.2.1 t ht
  obtain ⟨hm4, hf4⟩ := rx4 hR ht
  refine lv_aload_n hx hb dX6_outdatedObject_0 rfl (lv_at hl 0 rfl) ?_
  refine lv_iload_n hx hb dX6_outdatedObject_1 rfl (lv_at hl 1 rfl) ?_
  refine hx_Vq (rest := []) S X (c_X6_existingObject l G L f ad σ (nI o) hI hR) gX6_outdatedObject_X6_existingObject rfl (n := 1) (by decide +kernel) rfl ⟨(Nat.le_of_ble_eq_true rfl), (Nat.le_of_ble_eq_true rfl)⟩ (xp_recv (ci := 6) X rfl m0 f0) hl.1 rfl (Nat.le_of_ble_eq_true rfl) dX6_outdatedObject_2 ⟨(Nat.le_of_ble_eq_true rfl), (Nat.le_of_ble_eq_true rfl)⟩ (fun r wd1 H locs hp X => ?_)
  obtain ⟨hr2, hs2, rfl⟩ := hp
  by_cases hex : σ 6 o = 1
  · skip
    have hco : (nI o).toNatClampNeg = o := nI_clamp (by omega)
    have hco : (nI o).toNatClampNeg = o := nI_clamp (by omega)
    obtain ⟨⟨ho0, ho1⟩, ⟨ho2, ho3⟩, ⟨ho4, ho5⟩, hov⟩ := (hI.2.2.2.2.2 o ho).2 hex
    have hk8 : cnt σ (oC σ o) ≤ 8 := (hI.2.2.1 _ ho1).1.2.2
    have hk1o : 1 ≤ cnt σ (oC σ o) := (hI.2.2.1 _ ho1).1.2.1
    obtain ⟨hm13, hf13⟩ := rx13 hR ho hex
    obtain ⟨g14, hm14, hf14, he14⟩ := rx14 hR ho hex
    obtain ⟨hmo4, hfo4⟩ := rx4 hR ho1
    obtain ⟨gf, hm5, hf5, he5⟩ := rx5 hR ho1
    refine hx_eq (show r = some (ad 13 o 0 0) from hr2 o ho hex rfl) ?_
    refine lv_astore_n (lv' := [(3, .ref (ad 13 o 0 0)), (0, .ref (ad 0 0 0 0)), (1, .int (nI (o))), (2, .ref (ad 4 t 0 0))]) hx hb dX6_outdatedObject_5 rfl hl (by decide) rfl (fun ls hl => ?_)
    refine lv_aload_n hx hb dX6_outdatedObject_6 rfl (lv_at hl 0 rfl) ?_
    refine lv_ifnull hx hb dX6_outdatedObject_7 ?_
    refine lv_aload_n hx hb dX6_outdatedObject_10 rfl (lv_at hl 0 rfl) ?_
    refine xp_getN (host := RX6) S X (ci := 5) hm13 hf13 rfl hin5 0 (by decide) (by decide +kernel) rfl dX6_outdatedObject_11 ?_
    refine xp_getN (host := RX6) S X (ci := 1) hmo4 hfo4 rfl hin1 0 (by decide) (by decide +kernel) rfl dX6_outdatedObject_14 ?_
    refine lv_aload_n hx hb dX6_outdatedObject_17 rfl (lv_at hl 3 rfl) ?_
    refine xp_getN (host := RX6) S X (ci := 1) hm4 hf4 rfl hin1 0 (by decide) (by decide +kernel) rfl dX6_outdatedObject_18 ?_
    refine lv_icmp_ne (tgt := 35) hx hb dX6_outdatedObject_21 (by decide) (fun c21 => ?_) (fun c21 => ?_)
    · skip
      have c21 := (not_congr (nI_eq (a := oC σ o) (b := t) (by omega) (by omega))).mp c21
      refine lv_null hx hb dX6_outdatedObject_35 ?_
      have hP : ¬ outP σ (nI t) o := fun q => c21 ((nI_eq (by omega) (by omega)).mp (ho0.symm.trans q.2.1))
      exact hx_qret none rfl S X hr hlk (Nat.le_of_ble_eq_true rfl) (Nat.le_of_ble_eq_true rfl) ⟨fun n => absurd n hP, fun _ => rfl, rfl⟩ dX6_outdatedObject_36
    · skip
      have c21 := (nI_eq (a := oC σ o) (b := t) (by omega) (by omega)).mp c21
      refine lv_aload_n hx hb dX6_outdatedObject_24 rfl (lv_at hl 0 rfl) ?_
      refine xp_getN (host := RX6) S X (ci := 5) hm13 hf13 rfl hin5 2 (by decide) (by decide +kernel) rfl dX6_outdatedObject_25 ?_
      refine lv_aload_n hx hb dX6_outdatedObject_28 rfl (lv_at hl 3 rfl) ?_
      refine xp_getN (host := RX6) S X (ci := 1) hm4 hf4 rfl hin1 3 (by decide) (by decide +kernel) rfl dX6_outdatedObject_29 ?_
      refine lv_icmp_ne (tgt := 37) hx hb dX6_outdatedObject_32 (by decide) (fun c32 => ?_) (fun c32 => ?_)
      · skip
        have c32 := (not_congr (nI_eq (a := oV σ o) (b := cnt σ t - 1) (by omega) (by omega))).mp c32
        refine lv_aload_n hx hb dX6_outdatedObject_37 rfl (lv_at hl 0 rfl) ?_
        have hc1 : nI (cnt σ t) - 1 = nI (cnt σ t - 1) := pk_sub (a := cnt σ t) (b := 1) hk1
        have hP : outP σ (nI t) o := ⟨by rw [hex]; decide, by rw [ho0, c21], by rw [ho2, show cN (nI t) = t from nI_clamp (by omega), hc1]; exact fun q => c32 ((nI_eq (by omega) (by omega)).mp q)⟩
        exact hx_qret (some (ad 13 o 0 0)) rfl S X hr hlk (Nat.le_of_ble_eq_true rfl) (Nat.le_of_ble_eq_true rfl) ⟨fun _ => rfl, fun n => absurd hP n, rfl⟩ dX6_outdatedObject_38
      · skip
        have c32 := (nI_eq (a := oV σ o) (b := cnt σ t - 1) (by omega) (by omega)).mp c32
        refine lv_null hx hb dX6_outdatedObject_35 ?_
        have hc1 : nI (cnt σ t) - 1 = nI (cnt σ t - 1) := pk_sub (a := cnt σ t) (b := 1) hk1
        have hP : ¬ outP σ (nI t) o := fun q => q.2.2 (by rw [ho2, show cN (nI t) = t from nI_clamp (by omega), hc1, c32])
        exact hx_qret none rfl S X hr hlk (Nat.le_of_ble_eq_true rfl) (Nat.le_of_ble_eq_true rfl) ⟨fun n => absurd n hP, fun _ => rfl, rfl⟩ dX6_outdatedObject_36
  · skip
    have h60 : σ 6 o = 0 := (hI.2.2.2.2.2 o ho).1.resolve_right hex
    refine hx_eq (show r = none from hs2 (isO_not hI ho h60)) ?_
    refine lv_astore_nN (lv' := [(3, .null), (0, .ref (ad 0 0 0 0)), (1, .int (nI (o))), (2, .ref (ad 4 t 0 0))]) hx hb dX6_outdatedObject_5 rfl hl (by decide) rfl (fun ls hl => ?_)
    refine lv_aload_nN hx hb dX6_outdatedObject_6 rfl (lv_at hl 0 rfl) ?_
    refine lv_ifnullN (tgt := 35) hx hb dX6_outdatedObject_7 (by decide) ?_
    refine lv_null hx hb dX6_outdatedObject_35 ?_
    have hP : ¬ outP σ (nI t) o := fun q => q.1 h60
    exact hx_qret none rfl S X hr hlk (Nat.le_of_ble_eq_true rfl) (Nat.le_of_ble_eq_true rfl) ⟨fun n => absurd n hP, fun _ => rfl, rfl⟩ dX6_outdatedObject_36

set_option maxRecDepth 100000 in
set_option maxHeartbeats 4000000 in
theorem c_X6_outdated (l : Launch) (G : hG) (L : List Nat) (f : Nat → va_E) (ad : xAd) (σ : Sg) (type : Int32) (hI : Inv σ) (hR : RX G L f ad σ)  : hMi l G yX6_outdated wsX6_outdated ({ frames := 2, cells := 0, slots := 0, locals := 44 } : Room) (va_pl L f) [.ref (ad 0 0 0 0), .int (type)] (fun r w => r = (M_outdated σ type).1 ∧ XPo G (ad 0 0 0 0) (M_outdated σ type).2 w) := by
  refine hMi.of (cc := cX6_outdated) (maxL := 5) (some .int) RX6 rfl (by decide +kernel) rfl (Nat.le_of_ble_eq_true rfl) ?_
  intro p e s m args below meth c S hr hlk X ls hl
  have hx := S.1
  have hb := S.2.1
  have hown := S.2.2.2.1
  have hts := S.2.2.2.2
  have hl : lv_has ls 5 [(0, .ref (ad 0 0 0 0)), (1, .int (type))] := hl
  have hin1 : ∀ w ∈ wsX10, w ∈ wsX6_outdated := by decide +kernel
  have hin5 : ∀ w ∈ wsX50, w ∈ wsX6_outdated := by decide +kernel
  have hin6 : ∀ w ∈ wsX60, w ∈ wsX6_outdated := by decide +kernel
  have hC6 : nC σ ≤ 6 := hI.1.2
  have hO24 : nO σ ≤ 24 := hI.2.1.2
  obtain ⟨m0, f0⟩ := rx0 hR
  obtain ⟨g1, m1, f1, e1⟩ := rx1 hR
  obtain ⟨g2, m2, f2, e2⟩ := rx2 hR
  obtain ⟨g3, m3, f3, e3⟩ := rx3 hR
  refine lv_aload_n hx hb dX6_outdated_0 rfl (lv_at hl 0 rfl) ?_
  refine lv_iload_n hx hb dX6_outdated_1 rfl (lv_at hl 1 rfl) ?_
  refine hx_Vq (rest := []) S X (c_X6_historyOf l G L f ad σ (type) hI hR) gX6_outdated_X6_historyOf rfl (n := 1) (by decide +kernel) rfl ⟨(Nat.le_of_ble_eq_true rfl), (Nat.le_of_ble_eq_true rfl)⟩ (xp_recv (ci := 6) X rfl m0 f0) hl.1 rfl (Nat.le_of_ble_eq_true rfl) dX6_outdated_2 ⟨(Nat.le_of_ble_eq_true rfl), (Nat.le_of_ble_eq_true rfl)⟩ (fun r wd1 H locs hp X => ?_)
  obtain ⟨hr2, hs2, rfl⟩ := hp
  by_cases hC : isC σ (type)
  · skip
    have hC' := hC
    obtain ⟨t, ht, rfl⟩ := hC
    have hct : (nI t).toNatClampNeg = t := nI_clamp (by omega)
    obtain ⟨⟨hk0, hk1, hk2⟩, hks, hkv⟩ := hI.2.2.1 t ht
    obtain ⟨hm4, hf4⟩ := rx4 hR ht
    obtain ⟨gf, hm5, hf5, he5⟩ := rx5 hR ht
    obtain ⟨gc, hm6, hf6, he6⟩ := rx6 hR ht
    refine hx_eq (show r = some (ad 4 t 0 0) from hr2 t ht rfl) ?_
    refine lv_astore_n (lv' := [(2, .ref (ad 4 t 0 0)), (0, .ref (ad 0 0 0 0)), (1, .int (nI (t)))]) hx hb dX6_outdated_5 rfl hl (by decide) rfl (fun ls hl => ?_)
    refine lv_aload_n hx hb dX6_outdated_6 rfl (lv_at hl 0 rfl) ?_
    refine lv_ifnonnull (tgt := 13) hx hb dX6_outdated_7 (by decide) ?_
    refine lv_iconst (v := 0) hx hb dX6_outdated_13 (by decide) ?_
    refine lv_istore_n (lv' := [(3, .int ((0 : Int32))), (2, .ref (ad 4 t 0 0)), (0, .ref (ad 0 0 0 0)), (1, .int (nI (t)))]) hx hb dX6_outdated_14 rfl hl (by decide) rfl (fun ls hl => ?_)
    refine lv_iconst (v := 0) hx hb dX6_outdated_15 (by decide) ?_
    refine lv_istore (lv' := [(4, .int ((0 : Int32))), (3, .int ((0 : Int32))), (2, .ref (ad 4 t 0 0)), (0, .ref (ad 0 0 0 0)), (1, .int (nI (t)))]) hx hb dX6_outdated_16 hl (by decide) rfl (fun ls hl => ?_)
    have loop : ∀ (n9 i : Nat) (y : Nat), i + n9 = nO σ → y = cnp (outP σ (nI t)) i → ∀ (H : Heap) (locs : List Loc) (ls : Array Slot), hH G (va_A (va_pl L f) s.heap.size) s.heap s (va_pl L f) H locs → lv_has ls 5 [(0, .ref (ad 0 0 0 0)), (1, .int (nI (t))), (2, .ref (ad 4 t 0 0)), (3, .int (nI (y))), (4, .int (nI (i)))] → W p l e ({ frames := 2, cells := 0, slots := 0, locals := 44 } : Room) s m args below meth c H locs 0 0 (MQ below (va_Qi (fun r w => r = (M_outdated σ (nI t)).1 ∧ XPo G (ad 0 0 0 0) (M_outdated σ (nI t)).2 w) (hB G (va_A (va_pl L f) s.heap.size)) (va_A (va_pl L f) s.heap.size)) args s 0 0 (va_A (va_pl L f) s.heap.size)) (F0 m 18 ls []) := by
      intro n9
      induction n9 with
      | zero =>
        intro i y hi9 hv H locs ls X hl
        have hin : i = nO σ := by omega
        refine lv_iload hx hb dX6_outdated_18 (lv_at hl 4 rfl) ?_
        refine lv_aload_n hx hb dX6_outdated_20 rfl (lv_at hl 0 rfl) ?_
        refine xp_get S X (ci := 6) m0 f0 rfl hin6 4 (by decide) (by decide +kernel) rfl dX6_outdated_21 ?_
        refine lv_icmp_ge (tgt := 46) hx hb dX6_outdated_24 (by decide) (fun _ => ?_) (fun c9 => absurd (nI_le (a := nO σ) (b := i) (by omega) (by omega)) c9)
        refine lv_iload_n hx hb dX6_outdated_46 rfl (lv_at hl 3 rfl) ?_
        exact hx_iret S X hr hlk (Nat.le_of_ble_eq_true rfl) (Nat.le_of_ble_eq_true rfl) ⟨by rw [hv, hin, M_outdated, wif_t hC'], by rw [M_outdated, wif_t hC']; exact ⟨_, _, _, rfl, hR, rfl⟩⟩ dX6_outdated_47
      | succ n9 ih =>
        intro i y hi9 hv H locs ls X hl
        have hin : i < nO σ := by omega
        refine lv_iload hx hb dX6_outdated_18 (lv_at hl 4 rfl) ?_
        refine lv_aload_n hx hb dX6_outdated_20 rfl (lv_at hl 0 rfl) ?_
        refine xp_get S X (ci := 6) m0 f0 rfl hin6 4 (by decide) (by decide +kernel) rfl dX6_outdated_21 ?_
        refine lv_icmp_ge (tgt := 46) hx hb dX6_outdated_24 (by decide) (fun c9 => absurd c9 (nI_ge (a := i) (b := nO σ) (by omega) (by omega))) (fun _ => ?_)
        refine lv_aload_n hx hb dX6_outdated_27 rfl (lv_at hl 0 rfl) ?_
        refine lv_iload hx hb dX6_outdated_28 (lv_at hl 4 rfl) ?_
        refine lv_aload_n hx hb dX6_outdated_30 rfl (lv_at hl 2 rfl) ?_
        refine hx_Vq (rest := []) S X (c_X6_outdatedObject l G L f ad σ t (i) hI hR ht (by omega)) gX6_outdated_X6_outdatedObject rfl (n := 2) (by decide +kernel) rfl ⟨(Nat.le_of_ble_eq_true rfl), (Nat.le_of_ble_eq_true rfl)⟩ (xp_recv (ci := 6) X rfl m0 f0) hl.1 rfl (Nat.le_of_ble_eq_true rfl) dX6_outdated_31 ⟨(Nat.le_of_ble_eq_true rfl), (Nat.le_of_ble_eq_true rfl)⟩ (fun r wd1 H locs hp X => ?_)
        obtain ⟨hr31, hs31, rfl⟩ := hp
        by_cases hO : outP σ (nI t) (i)
        · skip
          refine hx_eq (show r = some (ad 13 (i) 0 0) from hr31 hO) ?_
          refine lv_ifnull hx hb dX6_outdated_34 ?_
          refine lv_iinc (v := nI (y + 1)) (lv' := [(3, .int (nI (y + 1))), (0, .ref (ad 0 0 0 0)), (1, .int (nI (t))), (2, .ref (ad 4 t 0 0)), (4, .int (nI (i)))]) hx hb dX6_outdated_37 hl (k := 3) rfl (nI_add (y) 1) (by decide) rfl (fun ls hl => ?_)
          refine lv_iinc (v := nI (i + 1)) (lv' := [(4, .int (nI (i + 1))), (3, .int (nI (y + 1))), (0, .ref (ad 0 0 0 0)), (1, .int (nI (t))), (2, .ref (ad 4 t 0 0))]) hx hb dX6_outdated_40 hl (k := 4) rfl (nI_add (i) 1) (by decide) rfl (fun ls hl => ?_)
          refine lv_goto (tgt := 18) hx hb dX6_outdated_43 (by decide) ?_
          exact ih (i + 1) (y + 1) (by omega) (by rw [hv, cnp_t hO]) _ _ _ X (lv_sub hl [2, 3, 4, 1, 0] rfl)
        · skip
          refine hx_eq (show r = none from hs31 hO) ?_
          refine lv_ifnullN (tgt := 40) hx hb dX6_outdated_34 (by decide) ?_
          refine lv_iinc (v := nI (i + 1)) (lv' := [(4, .int (nI (i + 1))), (0, .ref (ad 0 0 0 0)), (1, .int (nI (t))), (2, .ref (ad 4 t 0 0)), (3, .int (nI (y)))]) hx hb dX6_outdated_40 hl (k := 4) rfl (nI_add (i) 1) (by decide) rfl (fun ls hl => ?_)
          refine lv_goto (tgt := 18) hx hb dX6_outdated_43 (by decide) ?_
          exact ih (i + 1) (y) (by omega) (by rw [hv, cnp_f hO]) _ _ _ X (lv_sub hl [1, 2, 3, 4, 0] rfl)
    exact loop (nO σ) 0 0 (by omega) rfl _ _ _ X (lv_sub hl [3, 4, 2, 1, 0] rfl)
  · skip
    refine hx_eq (show r = none from hs2 hC) ?_
    refine lv_astore_nN (lv' := [(2, .null), (0, .ref (ad 0 0 0 0)), (1, .int (type))]) hx hb dX6_outdated_5 rfl hl (by decide) rfl (fun ls hl => ?_)
    refine lv_aload_nN hx hb dX6_outdated_6 rfl (lv_at hl 0 rfl) ?_
    refine lv_ifnonnullN hx hb dX6_outdated_7 ?_
    refine lv_ldc (v := -2000001) hx hb hown (hts (Cond.constant RX6 41 (-2000001)) (by decide +kernel)) dX6_outdated_10 ?_
    exact hx_iret S X hr hlk (Nat.le_of_ble_eq_true rfl) (Nat.le_of_ble_eq_true rfl) ⟨by simp [M_outdated, wif_t, wif_f, hC], by simp [M_outdated, wif_t, wif_f, hC]; exact ⟨L, f, ad, rfl, hR, rfl⟩⟩ dX6_outdated_12
