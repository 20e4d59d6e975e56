set_option maxRecDepth 100000 in
set_option maxHeartbeats 4000000 in
theorem c_X6_call (l : Launch) (G : hG) (L : List Nat) (f : Nat → va_E) (ad : xAd) (σ : Sg) (thread type : Int32) (hI : Inv σ) (hR : RX G L f ad σ)  : hMi l G yX6_call wsX6_call ({ frames := 3, cells := 1, slots := 3, locals := 62 } : Room) (va_pl L f) [.ref (ad 0 0 0 0), .int (thread), .int (type)] (fun r w => r = (M_call σ thread type).1 ∧ XPo G (ad 0 0 0 0) (M_call σ thread type).2 w) := by
  refine hMi.of (cc := cX6_call) (maxL := 5) (some .int) RX6 rfl (by decide +kernel) rfl (Nat.le_of_ble_eq_true rfl) ?_
  intro p e s m args below meth c S hr hlk X ls hl
  have hx := S.1
  have hb := S.2.1
  have hown := S.2.2.2.1
  have hts := S.2.2.2.2
  have hl : lv_has ls 5 [(0, .ref (ad 0 0 0 0)), (1, .int (thread)), (2, .int (type))] := hl
  have hin0 : ∀ w ∈ wsX00, w ∈ wsX6_call := by decide +kernel
  have hin1 : ∀ w ∈ wsX10, w ∈ wsX6_call := by decide +kernel
  have hin3 : ∀ w ∈ wsX30, w ∈ wsX6_call := by decide +kernel
  have hin6 : ∀ w ∈ wsX60, w ∈ wsX6_call := by decide +kernel
  have hC6 : nC σ ≤ 6 := hI.1.2
  have hO24 : nO σ ≤ 24 := hI.2.1.2
  obtain ⟨m0, f0⟩ := rx0 hR
  obtain ⟨g1, m1, f1, e1⟩ := rx1 hR
  obtain ⟨g2, m2, f2, e2⟩ := rx2 hR
  obtain ⟨g3, m3, f3, e3⟩ := rx3 hR
  refine lv_aload_n hx hb dX6_call_0 rfl (lv_at hl 0 rfl) ?_
  refine lv_iload_n hx hb dX6_call_1 rfl (lv_at hl 1 rfl) ?_
  refine hx_Vq (rest := []) S X (c_X6_stackOf l G L f ad σ (thread) hI hR) gX6_call_X6_stackOf rfl (n := 1) (by decide +kernel) rfl ⟨(Nat.le_of_ble_eq_true rfl), (Nat.le_of_ble_eq_true rfl)⟩ (xp_recv (ci := 6) X rfl m0 f0) hl.1 rfl (Nat.le_of_ble_eq_true rfl) dX6_call_2 ⟨(Nat.le_of_ble_eq_true rfl), (Nat.le_of_ble_eq_true rfl)⟩ (fun r wd1 H locs hp X => ?_)
  obtain ⟨hr2, hs2, rfl⟩ := hp
  by_cases hT : isT (thread)
  · skip
    have hT' := hT
    obtain ⟨th, hth, rfl⟩ := hT
    have hcth : (nI th).toNatClampNeg = th := nI_clamp (by omega)
    obtain ⟨hd0, hd8⟩ := hI.2.2.2.1 th hth
    obtain ⟨hm10, hf10⟩ := rx10 hR hth
    obtain ⟨g11, hm11, hf11, he11⟩ := rx11 hR hth
    refine hx_eq (show r = some (ad 10 th 0 0) from hr2 th hth rfl) ?_
    refine lv_astore_n (lv' := [(3, .ref (ad 10 th 0 0)), (0, .ref (ad 0 0 0 0)), (1, .int (nI (th))), (2, .int (type))]) hx hb dX6_call_5 rfl hl (by decide) rfl (fun ls hl => ?_)
    refine lv_aload_n hx hb dX6_call_6 rfl (lv_at hl 0 rfl) ?_
    refine lv_ifnonnull (tgt := 13) hx hb dX6_call_7 (by decide) ?_
    refine lv_aload_n hx hb dX6_call_13 rfl (lv_at hl 1 rfl) ?_
    refine lv_iload_n hx hb dX6_call_14 rfl (lv_at hl 3 rfl) ?_
    refine hx_Vq (rest := []) S X (c_X6_historyOf l G L f ad σ (type) hI hR) gX6_call_X6_historyOf rfl (n := 1) (by decide +kernel) rfl ⟨(Nat.le_of_ble_eq_true rfl), (Nat.le_of_ble_eq_true rfl)⟩ (xp_recv (ci := 6) X rfl m0 f0) hl.1 rfl (Nat.le_of_ble_eq_true rfl) dX6_call_15 ⟨(Nat.le_of_ble_eq_true rfl), (Nat.le_of_ble_eq_true rfl)⟩ (fun r wd1 H locs hp X => ?_)
    obtain ⟨hr15, hs15, rfl⟩ := hp
    by_cases hC : isC σ (type)
    · skip
      have hC' := hC
      obtain ⟨t, ht, rfl⟩ := hC
      have hct : (nI t).toNatClampNeg = t := nI_clamp (by omega)
      obtain ⟨⟨hk0, hk1, hk2⟩, hks, hkv⟩ := hI.2.2.1 t ht
      obtain ⟨hm4, hf4⟩ := rx4 hR ht
      obtain ⟨gf, hm5, hf5, he5⟩ := rx5 hR ht
      obtain ⟨gc, hm6, hf6, he6⟩ := rx6 hR ht
      refine hx_eq (show r = some (ad 4 t 0 0) from hr15 t ht rfl) ?_
      refine lv_astore (lv' := [(4, .ref (ad 4 t 0 0)), (3, .ref (ad 10 th 0 0)), (0, .ref (ad 0 0 0 0)), (1, .int (nI (th))), (2, .int (nI (t)))]) hx hb dX6_call_18 hl (by decide) rfl (fun ls hl => ?_)
      refine lv_aload hx hb dX6_call_20 (lv_at hl 0 rfl) ?_
      refine lv_ifnonnull (tgt := 28) hx hb dX6_call_22 (by decide) ?_
      refine lv_aload_n hx hb dX6_call_28 rfl (lv_at hl 1 rfl) ?_
      refine lv_aload hx hb dX6_call_29 (lv_at hl 0 rfl) ?_
      refine hx_Vi (rest := []) S X (c_X0_push l G L f (ad 10 th 0 0) (ad 11 th 0 0) (ad 4 t 0 0) (dN σ th) g11 (.int (nI (t))) (.ref (ad 5 t 0 0)) (.ref (ad 6 t 0 0)) (.int (σ 1 (162 * t + 1))) (nI (cnt σ t - 1)) hm10 hf10 hm11 hf11 hm4 hf4 hd8) gX6_call_X0_push rfl (n := 1) (by decide +kernel) rfl ⟨(Nat.le_of_ble_eq_true rfl), (Nat.le_of_ble_eq_true rfl)⟩ (xp_recv (ci := 0) X rfl hm10 hf10) hl.1 rfl (Nat.le_of_ble_eq_true rfl) dX6_call_31 ⟨(Nat.le_of_ble_eq_true rfl), (Nat.le_of_ble_eq_true rfl)⟩ (fun r wd1 H locs hp X => ?_)
      have hfin := call_post hI hR hth ht he11 hp
      exact hx_iret S X hr hlk (Nat.le_of_ble_eq_true rfl) (Nat.le_of_ble_eq_true rfl) hfin dX6_call_34
    · skip
      refine hx_eq (show r = none from hs15 hC) ?_
      refine lv_astoreN (lv' := [(4, .null), (3, .ref (ad 10 th 0 0)), (0, .ref (ad 0 0 0 0)), (1, .int (nI (th))), (2, .int (type))]) hx hb dX6_call_18 hl (by decide) rfl (fun ls hl => ?_)
      refine lv_aloadN hx hb dX6_call_20 (lv_at hl 0 rfl) ?_
      refine lv_ifnonnullN hx hb dX6_call_22 ?_
      refine lv_ldc (v := -2000001) hx hb hown (hts (Cond.constant RX6 41 (-2000001)) (by decide +kernel)) dX6_call_25 ?_
      exact hx_iret S X hr hlk (Nat.le_of_ble_eq_true rfl) (Nat.le_of_ble_eq_true rfl) ⟨by simp [M_call, wif_t, wif_f, hT', hcth, hC], by simp [M_call, wif_t, wif_f, hT', hcth, hC]; exact ⟨L, f, ad, rfl, hR, rfl⟩⟩ dX6_call_27
  · skip
    refine hx_eq (show r = none from hs2 hT) ?_
    refine lv_astore_nN (lv' := [(3, .null), (0, .ref (ad 0 0 0 0)), (1, .int (thread)), (2, .int (type))]) hx hb dX6_call_5 rfl hl (by decide) rfl (fun ls hl => ?_)
    refine lv_aload_nN hx hb dX6_call_6 rfl (lv_at hl 0 rfl) ?_
    refine lv_ifnonnullN hx hb dX6_call_7 ?_
    refine lv_ldc (v := -2000003) hx hb hown (hts (Cond.constant RX6 104 (-2000003)) (by decide +kernel)) dX6_call_10 ?_
    exact hx_iret S X hr hlk (Nat.le_of_ble_eq_true rfl) (Nat.le_of_ble_eq_true rfl) ⟨by simp [M_call, wif_t, wif_f, hT], by simp [M_call, wif_t, wif_f, hT]; exact ⟨L, f, ad, rfl, hR, rfl⟩⟩ dX6_call_12

set_option maxRecDepth 100000 in
set_option maxHeartbeats 4000000 in
theorem c_X6_finish (l : Launch) (G : hG) (L : List Nat) (f : Nat → va_E) (ad : xAd) (σ : Sg) (thread : Int32) (hI : Inv σ) (hR : RX G L f ad σ)  : hMi l G yX6_finish wsX6_finish ({ frames := 1, cells := 0, slots := 0, locals := 21 } : Room) (va_pl L f) [.ref (ad 0 0 0 0), .int (thread)] (fun r w => r = (M_finish σ thread).1 ∧ XPo G (ad 0 0 0 0) (M_finish σ thread).2 w) := by
  refine hMi.of (cc := cX6_finish) (maxL := 3) (some .int) RX6 rfl (by decide +kernel) rfl (Nat.le_of_ble_eq_true rfl) ?_
  intro p e s m args below meth c S hr hlk X ls hl
  have hx := S.1
  have hb := S.2.1
  have hown := S.2.2.2.1
  have hts := S.2.2.2.2
  have hl : lv_has ls 3 [(0, .ref (ad 0 0 0 0)), (1, .int (thread))] := hl
  have hin0 : ∀ w ∈ wsX00, w ∈ wsX6_finish := by decide +kernel
  have hin6 : ∀ w ∈ wsX60, w ∈ wsX6_finish := by decide +kernel
  have hC6 : nC σ ≤ 6 := hI.1.2
  have hO24 : nO σ ≤ 24 := hI.2.1.2
  obtain ⟨m0, f0⟩ := rx0 hR
  obtain ⟨g1, m1, f1, e1⟩ := rx1 hR
  obtain ⟨g2, m2, f2, e2⟩ := rx2 hR
  obtain ⟨g3, m3, f3, e3⟩ := rx3 hR
  refine lv_aload_n hx hb dX6_finish_0 rfl (lv_at hl 0 rfl) ?_
  refine lv_iload_n hx hb dX6_finish_1 rfl (lv_at hl 1 rfl) ?_
  refine hx_Vq (rest := []) S X (c_X6_stackOf l G L f ad σ (thread) hI hR) gX6_finish_X6_stackOf rfl (n := 1) (by decide +kernel) rfl ⟨(Nat.le_of_ble_eq_true rfl), (Nat.le_of_ble_eq_true rfl)⟩ (xp_recv (ci := 6) X rfl m0 f0) hl.1 rfl (Nat.le_of_ble_eq_true rfl) dX6_finish_2 ⟨(Nat.le_of_ble_eq_true rfl), (Nat.le_of_ble_eq_true rfl)⟩ (fun r wd1 H locs hp X => ?_)
  obtain ⟨hr2, hs2, rfl⟩ := hp
  by_cases hT : isT (thread)
  · skip
    have hT' := hT
    obtain ⟨th, hth, rfl⟩ := hT
    have hcth : (nI th).toNatClampNeg = th := nI_clamp (by omega)
    obtain ⟨hd0, hd8⟩ := hI.2.2.2.1 th hth
    obtain ⟨hm10, hf10⟩ := rx10 hR hth
    obtain ⟨g11, hm11, hf11, he11⟩ := rx11 hR hth
    refine hx_eq (show r = some (ad 10 th 0 0) from hr2 th hth rfl) ?_
    refine lv_astore_n (lv' := [(2, .ref (ad 10 th 0 0)), (0, .ref (ad 0 0 0 0)), (1, .int (nI (th)))]) hx hb dX6_finish_5 rfl hl (by decide) rfl (fun ls hl => ?_)
    refine lv_aload_n hx hb dX6_finish_6 rfl (lv_at hl 0 rfl) ?_
    refine lv_ifnonnull (tgt := 13) hx hb dX6_finish_7 (by decide) ?_
    refine lv_aload_n hx hb dX6_finish_13 rfl (lv_at hl 0 rfl) ?_
    refine hx_Vi (rest := []) S X (c_X0_pop l G L f (ad 10 th 0 0) (ad 11 th 0 0) (dN σ th) g11 hm10 hf10 hm11 hf11 hd8) gX6_finish_X0_pop rfl (n := 0) (by decide +kernel) rfl ⟨(Nat.le_of_ble_eq_true rfl), (Nat.le_of_ble_eq_true rfl)⟩ (xp_recv (ci := 0) X rfl hm10 hf10) hl.1 rfl (Nat.le_of_ble_eq_true rfl) dX6_finish_14 ⟨(Nat.le_of_ble_eq_true rfl), (Nat.le_of_ble_eq_true rfl)⟩ (fun r wd1 H locs hp X => ?_)
    have hfin := fin_post hI hR hth he11 hp
    exact hx_iret S X hr hlk (Nat.le_of_ble_eq_true rfl) (Nat.le_of_ble_eq_true rfl) hfin dX6_finish_17
  · skip
    refine hx_eq (show r = none from hs2 hT) ?_
    refine lv_astore_nN (lv' := [(2, .null), (0, .ref (ad 0 0 0 0)), (1, .int (thread))]) hx hb dX6_finish_5 rfl hl (by decide) rfl (fun ls hl => ?_)
    refine lv_aload_nN hx hb dX6_finish_6 rfl (lv_at hl 0 rfl) ?_
    refine lv_ifnonnullN hx hb dX6_finish_7 ?_
    refine lv_ldc (v := -2000003) hx hb hown (hts (Cond.constant RX6 104 (-2000003)) (by decide +kernel)) dX6_finish_10 ?_
    exact hx_iret S X hr hlk (Nat.le_of_ble_eq_true rfl) (Nat.le_of_ble_eq_true rfl) ⟨by simp [M_finish, wif_t, wif_f, hT], by simp [M_finish, wif_t, wif_f, hT]; exact ⟨L, f, ad, rfl, hR, rfl⟩⟩ dX6_finish_12
