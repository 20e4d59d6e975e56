set_option maxRecDepth 100000 in
set_option maxHeartbeats 4000000 in
theorem c_X6_addClass (l : Launch) (G : hG) (L : List Nat) (f : Nat → va_E) (ad : xAd) (σ : Sg) (fields : Int32) (hI : Inv σ) (hR : RX G L f ad σ) (hF : Fr σ) : hMi l G yX6_addClass wsX6_addClass ({ frames := 3, cells := 19, slots := 85, locals := 63 } : Room) (va_pl L f) [.ref (ad 0 0 0 0), .int (fields)] (fun r w => r = (M_addClass σ fields).1 ∧ XPo G (ad 0 0 0 0) (M_addClass σ fields).2 w) := by
  refine hMi.of (cc := cX6_addClass) (maxL := 3) (some .int) RX6 rfl (by decide +kernel) rfl (Nat.le_of_ble_eq_true rfl) ?_
  intro p e s m args below meth c S hr hlk X ls hl
  have hx := S.1
  have hb := S.2.1
  have hown := S.2.2.2.1
  have hts := S.2.2.2.2
  have hl : lv_has ls 3 [(0, .ref (ad 0 0 0 0)), (1, .int (fields))] := hl
  have hin1 : ∀ w ∈ wsX10, w ∈ wsX6_addClass := by decide +kernel
  have hin2 : ∀ w ∈ wsX20, w ∈ wsX6_addClass := by decide +kernel
  have hin6 : ∀ w ∈ wsX60, w ∈ wsX6_addClass := by decide +kernel
  have hC6 : nC σ ≤ 6 := hI.1.2
  have hO24 : nO σ ≤ 24 := hI.2.1.2
  obtain ⟨m0, f0⟩ := rx0 hR
  obtain ⟨g1, m1, f1, e1⟩ := rx1 hR
  obtain ⟨g2, m2, f2, e2⟩ := rx2 hR
  obtain ⟨g3, m3, f3, e3⟩ := rx3 hR
  refine lv_iload_n hx hb dX6_addClass_0 rfl (lv_at hl 1 rfl) ?_
  refine lv_if_lt (tgt := 11) hx hb dX6_addClass_1 (by decide) (fun c1 => ?_) (fun c1 => ?_)
  · skip
    have hbad : ¬ (0 ≤ fields ∧ fields ≤ 255) := fun q => absurd c1 (Int32.not_lt.mpr q.1)
    refine lv_ldc (v := -2000007) hx hb hown (hts (Cond.constant RX6 28 (-2000007)) (by decide +kernel)) dX6_addClass_11 ?_
    exact hx_iret S X hr hlk (Nat.le_of_ble_eq_true rfl) (Nat.le_of_ble_eq_true rfl) ⟨by simp [M_addClass, wif_t, wif_f, c1, hbad], by simp [M_addClass, wif_t, wif_f, c1, hbad]; exact ⟨L, f, ad, rfl, hR, rfl⟩⟩ dX6_addClass_13
  · skip
    refine lv_iload_n hx hb dX6_addClass_4 rfl (lv_at hl 1 rfl) ?_
    refine lv_sipush (v := 255) hx hb dX6_addClass_5 (by decide) ?_
    refine lv_icmp_le (tgt := 14) hx hb dX6_addClass_8 (by decide) (fun c8 => ?_) (fun c8 => ?_)
    · skip
      refine lv_aload_n hx hb dX6_addClass_14 rfl (lv_at hl 0 rfl) ?_
      refine xp_get S X (ci := 6) m0 f0 rfl hin6 1 (by decide) (by decide +kernel) rfl dX6_addClass_15 ?_
      refine lv_bipush (v := 6) hx hb dX6_addClass_18 (by decide) ?_
      refine lv_icmp_lt (tgt := 26) hx hb dX6_addClass_20 (by decide) (fun c20 => ?_) (fun c20 => ?_)
      · skip
        have c20 := (nI_ltI (a := nC σ) (b := 6) (by omega) (by omega)).mp c20
        refine lv_aload_n hx hb dX6_addClass_26 rfl (lv_at hl 0 rfl) ?_
        refine xp_get S X (ci := 6) m0 f0 rfl hin6 1 (by decide) (by decide +kernel) rfl dX6_addClass_27 ?_
        refine lv_istore_n (lv' := [(2, .int (nI (nC σ))), (0, .ref (ad 0 0 0 0)), (1, .int (fields))]) hx hb dX6_addClass_30 rfl hl (by decide) rfl (fun ls hl => ?_)
        refine lv_aload_n hx hb dX6_addClass_31 rfl (lv_at hl 1 rfl) ?_
        refine xp_get S X (ci := 6) m0 f0 rfl hin6 0 (by decide) (by decide +kernel) rfl dX6_addClass_32 ?_
        refine lv_iload_n hx hb dX6_addClass_35 rfl (lv_at hl 0 rfl) ?_
        refine xp_new S X (ci := 1) (fs := [.int ((0 : Int32)), .null, .null, .int ((0 : Int32)), .int ((0 : Int32))]) tyX1_ok rfl hin1 (by decide +kernel) (by decide +kernel) (by decide +kernel) (fun j hj => by rcases (show j = 0 ∨ j = 1 ∨ j = 2 ∨ j = 3 ∨ j = 4 by omega) with rfl | rfl | rfl | rfl | rfl <;> rfl) (Nat.le_of_ble_eq_true rfl) (Nat.le_of_ble_eq_true rfl) dX6_addClass_36 (fun q1 H hq1 X => ?_)
        have k2 : (va_up f (q1) (.inr (1, [.int ((0 : Int32)), .null, .null, .int ((0 : Int32)), .int ((0 : Int32))]))) (ad 0 0 0 0) = .inr (6, [.ref (ad 1 0 0 0), .int (nI (nC σ)), .ref (ad 2 0 0 0), .ref (ad 3 0 0 0), .int (nI (nO σ))]) := up_n f0 (fun q => hq1 (q ▸ m0))
        have k3 : (va_up f (q1) (.inr (1, [.int ((0 : Int32)), .null, .null, .int ((0 : Int32)), .int ((0 : Int32))]))) (ad 1 0 0 0) = hAQ G 3 6 (g1) := up_n f1 (fun q => hq1 (q ▸ m1))
        have k4 : (va_up f (q1) (.inr (1, [.int ((0 : Int32)), .null, .null, .int ((0 : Int32)), .int ((0 : Int32))]))) (ad 2 0 0 0) = hAQ G 2 4 (g2) := up_n f2 (fun q => hq1 (q ▸ m2))
        have k5 : (va_up f (q1) (.inr (1, [.int ((0 : Int32)), .null, .null, .int ((0 : Int32)), .int ((0 : Int32))]))) (ad 3 0 0 0) = hAQ G 7 24 (g3) := up_n f3 (fun q => hq1 (q ▸ m3))
        have k6 : (va_up f (q1) (.inr (1, [.int ((0 : Int32)), .null, .null, .int ((0 : Int32)), .int ((0 : Int32))]))) (q1) = .inr (1, [.int ((0 : Int32)), .null, .null, .int ((0 : Int32)), .int ((0 : Int32))]) := va_up_s _ _ _
        refine lv_dup hx hb dX6_addClass_39 rfl ?_
        refine lv_iload_n hx hb dX6_addClass_40 rfl (lv_at hl 0 rfl) ?_
        refine lv_iload_n hx hb dX6_addClass_41 rfl (lv_at hl 2 rfl) ?_
        refine hx_Iv (rest := [.ref (q1), .int (nI (nC σ)), .ref (ad 1 0 0 0)]) S X (c_X1_init l G (L ++ [q1]) (va_up f (q1) (.inr (1, [.int ((0 : Int32)), .null, .null, .int ((0 : Int32)), .int ((0 : Int32))]))) (q1) (nI (nC σ)) (fields) (List.mem_append_right _ (List.mem_singleton.mpr rfl)) k6) gX6_addClass_X1_init rfl (by decide +kernel) (by decide +kernel) (by decide +kernel) rfl (n := 2) (by decide +kernel) rfl ⟨(Nat.le_of_ble_eq_true rfl), (Nat.le_of_ble_eq_true rfl)⟩ hl.1 rfl (Nat.le_of_ble_eq_true rfl) dX6_addClass_42 ⟨(Nat.le_of_ble_eq_true rfl), (Nat.le_of_ble_eq_true rfl)⟩ (fun wd1 H locs hp X => ?_)
        obtain ⟨L1, F1, fsa, cva, gc, cv, sa, rfl, hLL, hff, hfq, hfs, hcv, hvs, hij⟩ := hp
        refine xp_ast S X 3 (r := (RX1, TX1, 5)) rfl (hLL _ (List.mem_append_left _ m1)) ((hff _ (List.mem_append_left _ m1) (fun z => hq1 (z ▸ m1))).trans k3) (hLL _ (List.mem_append_right _ (List.mem_singleton.mpr rfl))) hfq rfl (j := nC σ) (by omega) (by decide) dX6_addClass_45 (fun H locs X => ?_)
        have k7 : (va_up F1 (ad 1 0 0 0) (hAQ G 3 6 (va_up (g1) (nC σ) (some (q1))))) (ad 0 0 0 0) = .inr (6, [.ref (ad 1 0 0 0), .int (nI (nC σ)), .ref (ad 2 0 0 0), .ref (ad 3 0 0 0), .int (nI (nO σ))]) := up_k ((hff _ (List.mem_append_left _ m1) (fun z => hq1 (z ▸ m1))).trans k3) ((hff _ (List.mem_append_left _ m0) (fun z => hq1 (z ▸ m0))).trans k2) (by simp)
        have k8 : (va_up F1 (ad 1 0 0 0) (hAQ G 3 6 (va_up (g1) (nC σ) (some (q1))))) (q1) = .inr (1, [.int (nI (nC σ)), .ref (fsa), .ref (cva), .int ((0 : Int32)), .int ((0 : Int32))]) := up_k ((hff _ (List.mem_append_left _ m1) (fun z => hq1 (z ▸ m1))).trans k3) hfq (by simp)
        have k9 : (va_up F1 (ad 1 0 0 0) (hAQ G 3 6 (va_up (g1) (nC σ) (some (q1))))) (ad 1 0 0 0) = hAQ G 3 6 (va_up (g1) (nC σ) (some (q1))) := va_up_s _ _ _
        refine lv_aload_n hx hb dX6_addClass_46 rfl (lv_at hl 1 rfl) ?_
        refine lv_dup hx hb dX6_addClass_47 rfl ?_
        refine xp_get S X (ci := 6) (hLL _ (List.mem_append_left _ m0)) k7 rfl hin6 1 (by decide) (by decide +kernel) rfl dX6_addClass_48 ?_
        refine lv_iconst (v := 1) hx hb dX6_addClass_51 (by decide) ?_
        refine lv_iadd hx hb dX6_addClass_52 ?_
        refine hx_ei (show _ = nI (nC σ + 1) from nI_add (nC σ) (1)) ?_
        refine xp_put S X (ci := 6) (fs2 := [.ref (ad 1 0 0 0), .int (nI (nC σ + 1)), .ref (ad 2 0 0 0), .ref (ad 3 0 0 0), .int (nI (nO σ))]) tyX6_ok nmX6 (hLL _ (List.mem_append_left _ m0)) k7 rfl hin6 1 (by decide) (by decide +kernel) rfl rfl rfl (Nat.le_of_ble_eq_true rfl) rfl dX6_addClass_53 (fun H locs X => ?_)
        have k10 : (va_up (va_up F1 (ad 1 0 0 0) (hAQ G 3 6 (va_up (g1) (nC σ) (some (q1))))) (ad 0 0 0 0) (.inr (6, [.ref (ad 1 0 0 0), .int (nI (nC σ + 1)), .ref (ad 2 0 0 0), .ref (ad 3 0 0 0), .int (nI (nO σ))]))) (q1) = .inr (1, [.int (nI (nC σ)), .ref (fsa), .ref (cva), .int ((0 : Int32)), .int ((0 : Int32))]) := up_k k7 k8 (by simp)
        have k11 : (va_up (va_up F1 (ad 1 0 0 0) (hAQ G 3 6 (va_up (g1) (nC σ) (some (q1))))) (ad 0 0 0 0) (.inr (6, [.ref (ad 1 0 0 0), .int (nI (nC σ + 1)), .ref (ad 2 0 0 0), .ref (ad 3 0 0 0), .int (nI (nO σ))]))) (ad 1 0 0 0) = hAQ G 3 6 (va_up (g1) (nC σ) (some (q1))) := up_k k7 k9 (by simp)
        have k12 : (va_up (va_up F1 (ad 1 0 0 0) (hAQ G 3 6 (va_up (g1) (nC σ) (some (q1))))) (ad 0 0 0 0) (.inr (6, [.ref (ad 1 0 0 0), .int (nI (nC σ + 1)), .ref (ad 2 0 0 0), .ref (ad 3 0 0 0), .int (nI (nO σ))]))) (ad 0 0 0 0) = .inr (6, [.ref (ad 1 0 0 0), .int (nI (nC σ + 1)), .ref (ad 2 0 0 0), .ref (ad 3 0 0 0), .int (nI (nO σ))]) := va_up_s _ _ _
        refine lv_iload_n hx hb dX6_addClass_56 rfl (lv_at hl 0 rfl) ?_
        have hM : M_addClass σ fields = (nI (nC σ), mS (mS (mS σ 1 (162 * nC σ + 0) 1) 1 (162 * nC σ + 2) fields) 0 0 (nI (nC σ + 1))) := by rw [M_addClass, wif_t ⟨Int32.not_lt.mp c1, c8⟩, wif_f (by omega)]
        have hRX := rx_addClass hI hF hR (x := fields) (g1 := g1) c20 ⟨hq1, hLL _ (List.mem_append_right _ (List.mem_singleton.mpr rfl))⟩ (fun a ha => hLL a (List.mem_append_left _ ha)) (fun a ha => (hff a (List.mem_append_left _ ha) (fun z => hq1 (z ▸ ha))).trans (va_up_n _ _ (fun z => hq1 (z ▸ ha)))) hfq ⟨hfs.1, (fun z => hfs.2.1 (List.mem_append_left _ z)), hfs.2.2⟩ ⟨hcv.1, (fun z => hcv.2.1 (List.mem_append_left _ z)), hcv.2.2⟩ (fun v hv => ⟨(hvs v hv).1, ⟨(hvs v hv).2.1.1, (fun z => (hvs v hv).2.1.2.1 (List.mem_append_left _ z)), (hvs v hv).2.1.2.2⟩, (hvs v hv).2.2.1, (fun z => (hvs v hv).2.2.2.1 (List.mem_append_left _ z)), (hvs v hv).2.2.2.2⟩) hij e1
        exact hx_iret S X hr hlk (Nat.le_of_ble_eq_true rfl) (Nat.le_of_ble_eq_true rfl) ⟨by rw [hM], by rw [hM]; exact ⟨_, _, _, rfl, hRX, by unfold adC; rw [if_neg (by omega)]⟩⟩ dX6_addClass_57
      · skip
        have c20 := (not_congr (nI_ltI (a := nC σ) (b := 6) (by omega) (by omega))).mp c20
        have hfull : nC σ = 6 := by omega
        have hok : 0 ≤ fields ∧ fields ≤ 255 := ⟨Int32.not_lt.mp c1, c8⟩
        refine lv_ldc (v := -2000010) hx hb hown (hts (Cond.constant RX6 33 (-2000010)) (by decide +kernel)) dX6_addClass_23 ?_
        exact hx_iret S X hr hlk (Nat.le_of_ble_eq_true rfl) (Nat.le_of_ble_eq_true rfl) ⟨by simp [M_addClass, wif_t, wif_f, c1, c8, c20, hfull, hok], by simp [M_addClass, wif_t, wif_f, c1, c8, c20, hfull, hok]; exact ⟨L, f, ad, rfl, hR, rfl⟩⟩ dX6_addClass_25
    · skip
      have hbad : ¬ (0 ≤ fields ∧ fields ≤ 255) := fun q => c8 q.2
      refine lv_ldc (v := -2000007) hx hb hown (hts (Cond.constant RX6 28 (-2000007)) (by decide +kernel)) dX6_addClass_11 ?_
      exact hx_iret S X hr hlk (Nat.le_of_ble_eq_true rfl) (Nat.le_of_ble_eq_true rfl) ⟨by simp [M_addClass, wif_t, wif_f, c1, c8, hbad], by simp [M_addClass, wif_t, wif_f, c1, c8, hbad]; exact ⟨L, f, ad, rfl, hR, rfl⟩⟩ dX6_addClass_13
