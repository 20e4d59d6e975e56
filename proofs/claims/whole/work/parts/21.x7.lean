/-! the face's writers: classes -/
theorem isVL_iff (x : Int32) : isVL x.toInt64 ↔ isVal x := by
  unfold isVL isVal
  rw [i_le64, i_le64, i_le, i_le, Int32.toInt_toInt64]
  exact Iff.rfl
theorem chS_0 {a b x : Int32} : chS 0 a b x = x ||| (1 : Int32) <<< (a &&& 31) := by simp [chS]
theorem chS_1 {a b x : Int32} : chS 1 a b x = x &&& (((1 : Int32) <<< (a &&& 31)) ^^^ (-1 : Int32)) := by simp [chS]
theorem chS_2 {a b x : Int32} : chS 2 a b x = (x &&& (((1 : Int32) <<< (a &&& 31)) ^^^ (-1 : Int32))) ||| (1 : Int32) <<< (b &&& 31) := by simp [chS]
theorem chS_3 {a b x : Int32} : chS 3 a b x = x := by simp [chS]
theorem chS_4 {a b x : Int32} : chS 4 a b x = x &&& (((1 : Int32) <<< (a &&& 31)) ^^^ (-1 : Int32)) := by simp [chS]
theorem ap_post {G : hG} {L : List Nat} {f : Nat → va_E} {ad : xAd} {σ : Sg} (hI : Inv σ) (hR : RX G L f ad σ) {t : Nat} (ht : t < nC σ) (h7 : cnt σ t ≤ 7) {gf : Nat → Int32} (he : ∀ v, v < 8 → gf v = σ 1 (162 * t + (2 + v))) {g1 : Nat → Option Nat} (hg1 : ∀ n, n < stp σ t (cnt σ t) → g1 n = some (ad 9 t (cnt σ t) n)) {K A B F r : Int32} {wd : va_W} (hF : chS K A B (sset σ t) = F)
    (hp : (stp σ t (cnt σ t) = 6 → r = -2000010 ∧ wd = va_pl L f) ∧ (stp σ t (cnt σ t) < 6 → r = nI (stp σ t (cnt σ t) + 1) ∧ ∃ q, q ∉ L ∧ wd = va_pl (L ++ [q]) (va_up (va_up (va_up (va_up f q (.inr (4, [.int K, .int A, .int B]))) (ad 5 t 0 0) (hAI G 8 (upd gf (cnt σ t - 1 + 1) (chS K A B (gf (cnt σ t - 1 + 1)))))) (ad 8 t (cnt σ t) 0) (hAQ G 6 6 (va_up g1 (stp σ t (cnt σ t)) (some q)))) (ad 7 t (cnt σ t) 0) (.inr (2, [.ref (ad 8 t (cnt σ t) 0), .int (nI (stp σ t (cnt σ t) + 1))]))))) :
    r = (M_append σ t K A B F).1 ∧ XPo G (ad 0 0 0 0) (M_append σ t K A B F).2 wd := by
  have hk := (hI.2.2.1 t ht).1.2.1
  have h6 := ((hI.2.2.1 t ht).2.2 (cnt σ t) (by omega)).1.2
  rcases Nat.lt_or_ge (stp σ t (cnt σ t)) 6 with c | c
  · obtain ⟨rfl, q, hq, rfl⟩ := hp.2 c
    refine ⟨by rw [M_append, wif_f (by omega)], ?_⟩
    rw [show cnt σ t - 1 + 1 = cnt σ t by omega, he _ (by omega), show chS K A B (σ 1 (162 * t + (2 + cnt σ t))) = F from hF]
    exact ⟨_, _, _, rfl, rx_append hI hR ht h7 he hg1 c hq, adU_n ad (by omega)⟩
  · obtain ⟨rfl, rfl⟩ := hp.1 (by omega)
    rw [M_append, wif_t (by omega)]
    exact ⟨rfl, _, _, _, rfl, hR, rfl⟩
set_option maxRecDepth 100000 in
set_option maxHeartbeats 4000000 in
theorem c_X6_activate (l : Launch) (G : hG) (L : List Nat) (f : Nat → va_E) (ad : xAd) (σ : Sg) (type : Int32) (hI : Inv σ) (hR : RX G L f ad σ)  : hMi l G yX6_activate wsX6_activate ({ frames := 2, cells := 0, slots := 0, locals := 40 } : Room) (va_pl L f) [.ref (ad 0 0 0 0), .int (type)] (fun r w => r = (M_activate σ type).1 ∧ XPo G (ad 0 0 0 0) (M_activate σ type).2 w) := by
  refine hMi.of (cc := cX6_activate) (maxL := 3) (some .int) RX6 rfl (by decide +kernel) rfl (Nat.le_of_ble_eq_true rfl) ?_
  intro p e s m args below meth c S hr hlk X ls hl
  have hx := S.1
  have hb := S.2.1
  have hown := S.2.2.2.1
  have hts := S.2.2.2.2
  have hl : lv_has ls 3 [(0, .ref (ad 0 0 0 0)), (1, .int (type))] := hl
  have hin1 : ∀ w ∈ wsX10, w ∈ wsX6_activate := by decide +kernel
  have hin6 : ∀ w ∈ wsX60, w ∈ wsX6_activate := by decide +kernel
  have hC6 : nC σ ≤ 6 := hI.1.2
  have hO24 : nO σ ≤ 24 := hI.2.1.2
  obtain ⟨m0, f0⟩ := rx0 hR
  obtain ⟨g1, m1, f1, e1⟩ := rx1 hR
  obtain ⟨g2, m2, f2, e2⟩ := rx2 hR
  obtain ⟨g3, m3, f3, e3⟩ := rx3 hR
  refine lv_aload_n hx hb dX6_activate_0 rfl (lv_at hl 0 rfl) ?_
  refine lv_iload_n hx hb dX6_activate_1 rfl (lv_at hl 1 rfl) ?_
  refine hx_Vq (rest := []) S X (c_X6_historyOf l G L f ad σ (type) hI hR) gX6_activate_X6_historyOf rfl (n := 1) (by decide +kernel) rfl ⟨(Nat.le_of_ble_eq_true rfl), (Nat.le_of_ble_eq_true rfl)⟩ (xp_recv (ci := 6) X rfl m0 f0) hl.1 rfl (Nat.le_of_ble_eq_true rfl) dX6_activate_2 ⟨(Nat.le_of_ble_eq_true rfl), (Nat.le_of_ble_eq_true rfl)⟩ (fun r wd1 H locs hp X => ?_)
  obtain ⟨hr2, hs2, rfl⟩ := hp
  by_cases hC : isC σ (type)
  · skip
    have hC' := hC
    obtain ⟨t, ht, rfl⟩ := hC
    have hct : (nI t).toNatClampNeg = t := nI_clamp (by omega)
    obtain ⟨⟨hk0, hk1, hk2⟩, hks, hkv⟩ := hI.2.2.1 t ht
    obtain ⟨hm4, hf4⟩ := rx4 hR ht
    obtain ⟨gf, hm5, hf5, he5⟩ := rx5 hR ht
    obtain ⟨gc, hm6, hf6, he6⟩ := rx6 hR ht
    refine hx_eq (show r = some (ad 4 t 0 0) from hr2 t ht rfl) ?_
    refine lv_astore_n (lv' := [(2, .ref (ad 4 t 0 0)), (0, .ref (ad 0 0 0 0)), (1, .int (nI (t)))]) hx hb dX6_activate_5 rfl hl (by decide) rfl (fun ls hl => ?_)
    refine lv_aload_n hx hb dX6_activate_6 rfl (lv_at hl 0 rfl) ?_
    refine lv_ifnonnull (tgt := 13) hx hb dX6_activate_7 (by decide) ?_
    refine lv_aload_n hx hb dX6_activate_13 rfl (lv_at hl 0 rfl) ?_
    refine xp_getN (host := RX6) S X (ci := 1) hm4 hf4 rfl hin1 4 (by decide) (by decide +kernel) rfl dX6_activate_14 ?_
    refine lv_if_ne (tgt := 23) hx hb dX6_activate_17 (by decide) (fun c17 => ?_) (fun c17 => ?_)
    · skip
      have hk3 : cnt σ t ≤ 7 := hks.elim (fun q => absurd q c17) (fun q => q.2)
      have hws1 : ws σ (nI t) = 0 := by rw [ws, wif_t hC', show cN (nI t) = t from hct, wif_f c17]
      refine lv_aload_n hx hb dX6_activate_23 rfl (lv_at hl 0 rfl) ?_
      refine hx_Vi (rest := []) S X (c_X1_activateStaged l G L f (ad 4 t 0 0) (ad 5 t 0 0) (ad 6 t 0 0) (cnt σ t - 1) (nI (t)) (σ 1 (162 * t + 1)) hm4 hf4 (by omega)) gX6_activate_X1_activateStaged rfl (n := 0) (by decide +kernel) rfl ⟨(Nat.le_of_ble_eq_true rfl), (Nat.le_of_ble_eq_true rfl)⟩ (xp_recv (ci := 1) X rfl hm4 hf4) hl.1 rfl (Nat.le_of_ble_eq_true rfl) dX6_activate_24 ⟨(Nat.le_of_ble_eq_true rfl), (Nat.le_of_ble_eq_true rfl)⟩ (fun r wd1 H locs hp X => ?_)
      obtain ⟨rfl, rfl⟩ := hp
      have hct2 : cN (nI t) = t := hct
      have hM : M_activate σ (nI t) = (nI (cnt σ t + 1) - 1, mS (mS σ 1 (162 * t + 1) 0) 1 (162 * t + 0) (nI (cnt σ t + 1))) := by rw [M_activate, wif_t hws1, hct2]
      have hfin : nI (cnt σ t - 1 + 1) = (M_activate σ (nI t)).1 ∧ XPo G (ad 0 0 0 0) (M_activate σ (nI t)).2 (va_pl L (va_up f (ad 4 t 0 0) (.inr (1, [.int (nI t), .ref (ad 5 t 0 0), .ref (ad 6 t 0 0), .int (nI (cnt σ t - 1 + 1)), .int 0])))) := by
        rw [hM]
        exact ⟨by show _ = nI (cnt σ t + 1) - 1; rw [nI_pred, show cnt σ t - 1 + 1 = cnt σ t by omega], _, _, _, rfl, rx_act hI hR ht hk3, rfl⟩
      exact hx_iret S X hr hlk (Nat.le_of_ble_eq_true rfl) (Nat.le_of_ble_eq_true rfl) hfin dX6_activate_27
    · skip
      have hws0 : ws σ (nI t) = -2000008 := by rw [ws, wif_t hC', show cN (nI t) = t from hct, wif_t c17]
      refine lv_ldc (v := -2000008) hx hb hown (hts (Cond.constant RX6 59 (-2000008)) (by decide +kernel)) dX6_activate_20 ?_
      exact hx_iret S X hr hlk (Nat.le_of_ble_eq_true rfl) (Nat.le_of_ble_eq_true rfl) ⟨by simp [M_activate, wif_t, wif_f, hC', hct, c17, hws0], by simp [M_activate, wif_t, wif_f, hC', hct, c17, hws0]; exact ⟨L, f, ad, rfl, hR, rfl⟩⟩ dX6_activate_22
  · skip
    refine hx_eq (show r = none from hs2 hC) ?_
    have hws2 : ws σ type = -2000001 := by rw [ws, wif_f hC]
    refine lv_astore_nN (lv' := [(2, .null), (0, .ref (ad 0 0 0 0)), (1, .int (type))]) hx hb dX6_activate_5 rfl hl (by decide) rfl (fun ls hl => ?_)
    refine lv_aload_nN hx hb dX6_activate_6 rfl (lv_at hl 0 rfl) ?_
    refine lv_ifnonnullN hx hb dX6_activate_7 ?_
    refine lv_ldc (v := -2000001) hx hb hown (hts (Cond.constant RX6 41 (-2000001)) (by decide +kernel)) dX6_activate_10 ?_
    exact hx_iret S X hr hlk (Nat.le_of_ble_eq_true rfl) (Nat.le_of_ble_eq_true rfl) ⟨by simp [M_activate, wif_t, wif_f, hC, hws2], by simp [M_activate, wif_t, wif_f, hC, hws2]; exact ⟨L, f, ad, rfl, hR, rfl⟩⟩ dX6_activate_12

set_option maxRecDepth 100000 in
set_option maxHeartbeats 4000000 in
theorem c_X6_discard (l : Launch) (G : hG) (L : List Nat) (f : Nat → va_E) (ad : xAd) (σ : Sg) (type : Int32) (hI : Inv σ) (hR : RX G L f ad σ)  : hMi l G yX6_discard wsX6_discard ({ frames := 2, cells := 0, slots := 0, locals := 40 } : Room) (va_pl L f) [.ref (ad 0 0 0 0), .int (type)] (fun r w => r = (M_discard σ type).1 ∧ XPo G (ad 0 0 0 0) (M_discard σ type).2 w) := by
  refine hMi.of (cc := cX6_discard) (maxL := 3) (some .int) RX6 rfl (by decide +kernel) rfl (Nat.le_of_ble_eq_true rfl) ?_
  intro p e s m args below meth c S hr hlk X ls hl
  have hx := S.1
  have hb := S.2.1
  have hown := S.2.2.2.1
  have hts := S.2.2.2.2
  have hl : lv_has ls 3 [(0, .ref (ad 0 0 0 0)), (1, .int (type))] := hl
  have hin1 : ∀ w ∈ wsX10, w ∈ wsX6_discard := by decide +kernel
  have hin2 : ∀ w ∈ wsX20, w ∈ wsX6_discard := by decide +kernel
  have hin6 : ∀ w ∈ wsX60, w ∈ wsX6_discard := by decide +kernel
  have hC6 : nC σ ≤ 6 := hI.1.2
  have hO24 : nO σ ≤ 24 := hI.2.1.2
  obtain ⟨m0, f0⟩ := rx0 hR
  obtain ⟨g1, m1, f1, e1⟩ := rx1 hR
  obtain ⟨g2, m2, f2, e2⟩ := rx2 hR
  obtain ⟨g3, m3, f3, e3⟩ := rx3 hR
  refine lv_aload_n hx hb dX6_discard_0 rfl (lv_at hl 0 rfl) ?_
  refine lv_iload_n hx hb dX6_discard_1 rfl (lv_at hl 1 rfl) ?_
  refine hx_Vq (rest := []) S X (c_X6_historyOf l G L f ad σ (type) hI hR) gX6_discard_X6_historyOf rfl (n := 1) (by decide +kernel) rfl ⟨(Nat.le_of_ble_eq_true rfl), (Nat.le_of_ble_eq_true rfl)⟩ (xp_recv (ci := 6) X rfl m0 f0) hl.1 rfl (Nat.le_of_ble_eq_true rfl) dX6_discard_2 ⟨(Nat.le_of_ble_eq_true rfl), (Nat.le_of_ble_eq_true rfl)⟩ (fun r wd1 H locs hp X => ?_)
  obtain ⟨hr2, hs2, rfl⟩ := hp
  by_cases hC : isC σ (type)
  · skip
    have hC' := hC
    obtain ⟨t, ht, rfl⟩ := hC
    have hct : (nI t).toNatClampNeg = t := nI_clamp (by omega)
    obtain ⟨⟨hk0, hk1, hk2⟩, hks, hkv⟩ := hI.2.2.1 t ht
    obtain ⟨hm4, hf4⟩ := rx4 hR ht
    obtain ⟨gf, hm5, hf5, he5⟩ := rx5 hR ht
    obtain ⟨gc, hm6, hf6, he6⟩ := rx6 hR ht
    refine hx_eq (show r = some (ad 4 t 0 0) from hr2 t ht rfl) ?_
    refine lv_astore_n (lv' := [(2, .ref (ad 4 t 0 0)), (0, .ref (ad 0 0 0 0)), (1, .int (nI (t)))]) hx hb dX6_discard_5 rfl hl (by decide) rfl (fun ls hl => ?_)
    refine lv_aload_n hx hb dX6_discard_6 rfl (lv_at hl 0 rfl) ?_
    refine lv_ifnonnull (tgt := 13) hx hb dX6_discard_7 (by decide) ?_
    refine lv_aload_n hx hb dX6_discard_13 rfl (lv_at hl 0 rfl) ?_
    refine xp_getN (host := RX6) S X (ci := 1) hm4 hf4 rfl hin1 4 (by decide) (by decide +kernel) rfl dX6_discard_14 ?_
    refine lv_if_ne (tgt := 23) hx hb dX6_discard_17 (by decide) (fun c17 => ?_) (fun c17 => ?_)
    · skip
      have hk3 : cnt σ t ≤ 7 := hks.elim (fun q => absurd q c17) (fun q => q.2)
      have hws1 : ws σ (nI t) = 0 := by rw [ws, wif_t hC', show cN (nI t) = t from hct, wif_f c17]
      refine lv_aload_n hx hb dX6_discard_23 rfl (lv_at hl 0 rfl) ?_
      obtain ⟨hm7, hf7⟩ := rx7 hR ht (v := cnt σ t) (by omega)
      obtain ⟨gs, hm8, hf8, he8⟩ := rx8 hR ht (v := cnt σ t) (by omega)
      have hl6 := (hkv (cnt σ t) (by omega)).1.2
      refine hx_Vi (rest := []) S X (c_X1_discardStaged l G L f (ad 4 t 0 0) (ad 5 t 0 0) (ad 6 t 0 0) (ad 7 t (cnt σ t) 0) (ad 8 t (cnt σ t) 0) (cnt σ t - 1) (stp σ t (cnt σ t)) (nI (t)) (σ 1 (162 * t + 1)) gc hm4 hf4 hm6 hf6 hm7 hf7 (by omega) (by rw [show cnt σ t - 1 + 1 = cnt σ t by omega]; exact he6 _ (by omega))) gX6_discard_X1_discardStaged rfl (n := 0) (by decide +kernel) rfl ⟨(Nat.le_of_ble_eq_true rfl), (Nat.le_of_ble_eq_true rfl)⟩ (xp_recv (ci := 1) X rfl hm4 hf4) hl.1 rfl (Nat.le_of_ble_eq_true rfl) dX6_discard_24 ⟨(Nat.le_of_ble_eq_true rfl), (Nat.le_of_ble_eq_true rfl)⟩ (fun r wd1 H locs hp X => ?_)
      obtain ⟨rfl, rfl⟩ := hp
      have hct2 : cN (nI t) = t := hct
      have hM : M_discard σ (nI t) = (nI (stp σ t (cnt σ t)), mS σ 1 (162 * t + 1) 0) := by rw [M_discard, wif_t hws1, hct2]
      have hfin : nI (stp σ t (cnt σ t)) = (M_discard σ (nI t)).1 ∧ XPo G (ad 0 0 0 0) (M_discard σ (nI t)).2 (va_pl L (va_up f (ad 4 t 0 0) (.inr (1, [.int (nI t), .ref (ad 5 t 0 0), .ref (ad 6 t 0 0), .int (nI (cnt σ t - 1)), .int 0])))) := by
        rw [hM]
        exact ⟨rfl, _, _, _, rfl, rx_disc hI hR ht, rfl⟩
      exact hx_iret S X hr hlk (Nat.le_of_ble_eq_true rfl) (Nat.le_of_ble_eq_true rfl) hfin dX6_discard_27
    · skip
      have hws0 : ws σ (nI t) = -2000008 := by rw [ws, wif_t hC', show cN (nI t) = t from hct, wif_t c17]
      refine lv_ldc (v := -2000008) hx hb hown (hts (Cond.constant RX6 59 (-2000008)) (by decide +kernel)) dX6_discard_20 ?_
      exact hx_iret S X hr hlk (Nat.le_of_ble_eq_true rfl) (Nat.le_of_ble_eq_true rfl) ⟨by simp [M_discard, wif_t, wif_f, hC', hct, c17, hws0], by simp [M_discard, wif_t, wif_f, hC', hct, c17, hws0]; exact ⟨L, f, ad, rfl, hR, rfl⟩⟩ dX6_discard_22
  · skip
    refine hx_eq (show r = none from hs2 hC) ?_
    have hws2 : ws σ type = -2000001 := by rw [ws, wif_f hC]
    refine lv_astore_nN (lv' := [(2, .null), (0, .ref (ad 0 0 0 0)), (1, .int (type))]) hx hb dX6_discard_5 rfl hl (by decide) rfl (fun ls hl => ?_)
    refine lv_aload_nN hx hb dX6_discard_6 rfl (lv_at hl 0 rfl) ?_
    refine lv_ifnonnullN hx hb dX6_discard_7 ?_
    refine lv_ldc (v := -2000001) hx hb hown (hts (Cond.constant RX6 41 (-2000001)) (by decide +kernel)) dX6_discard_10 ?_
    exact hx_iret S X hr hlk (Nat.le_of_ble_eq_true rfl) (Nat.le_of_ble_eq_true rfl) ⟨by simp [M_discard, wif_t, wif_f, hC, hws2], by simp [M_discard, wif_t, wif_f, hC, hws2]; exact ⟨L, f, ad, rfl, hR, rfl⟩⟩ dX6_discard_12

set_option maxRecDepth 100000 in
set_option maxHeartbeats 4000000 in
theorem c_X6_addField (l : Launch) (G : hG) (L : List Nat) (f : Nat → va_E) (ad : xAd) (σ : Sg) (type field value : Int32) (hI : Inv σ) (hR : RX G L f ad σ)  : hMi l G yX6_addField wsX6_addField ({ frames := 3, cells := 1, slots := 3, locals := 67 } : Room) (va_pl L f) [.ref (ad 0 0 0 0), .int (type), .int (field), .int (value)] (fun r w => r = (M_addField σ type field value).1 ∧ XPo G (ad 0 0 0 0) (M_addField σ type field value).2 w) := by
  refine hMi.of (cc := cX6_addField) (maxL := 5) (some .int) RX6 rfl (by decide +kernel) rfl (Nat.le_of_ble_eq_true rfl) ?_
  intro p e s m args below meth c S hr hlk X ls hl
  have hx := S.1
  have hb := S.2.1
  have hown := S.2.2.2.1
  have hts := S.2.2.2.2
  have hl : lv_has ls 5 [(0, .ref (ad 0 0 0 0)), (1, .int (type)), (2, .int (field)), (3, .int (value))] := hl
  have hin1 : ∀ w ∈ wsX10, w ∈ wsX6_addField := by decide +kernel
  have hin2 : ∀ w ∈ wsX20, w ∈ wsX6_addField := by decide +kernel
  have hin4 : ∀ w ∈ wsX40, w ∈ wsX6_addField := by decide +kernel
  have hin6 : ∀ w ∈ wsX60, w ∈ wsX6_addField := by decide +kernel
  have hC6 : nC σ ≤ 6 := hI.1.2
  have hO24 : nO σ ≤ 24 := hI.2.1.2
  obtain ⟨m0, f0⟩ := rx0 hR
  obtain ⟨g1, m1, f1, e1⟩ := rx1 hR
  obtain ⟨g2, m2, f2, e2⟩ := rx2 hR
  obtain ⟨g3, m3, f3, e3⟩ := rx3 hR
  refine lv_aload_n hx hb dX6_addField_0 rfl (lv_at hl 0 rfl) ?_
  refine lv_iload_n hx hb dX6_addField_1 rfl (lv_at hl 1 rfl) ?_
  refine hx_Vq (rest := []) S X (c_X6_historyOf l G L f ad σ (type) hI hR) gX6_addField_X6_historyOf rfl (n := 1) (by decide +kernel) rfl ⟨(Nat.le_of_ble_eq_true rfl), (Nat.le_of_ble_eq_true rfl)⟩ (xp_recv (ci := 6) X rfl m0 f0) hl.1 rfl (Nat.le_of_ble_eq_true rfl) dX6_addField_2 ⟨(Nat.le_of_ble_eq_true rfl), (Nat.le_of_ble_eq_true rfl)⟩ (fun r wd1 H locs hp X => ?_)
  obtain ⟨hr2, hs2, rfl⟩ := hp
  by_cases hC : isC σ (type)
  · skip
    have hC' := hC
    obtain ⟨t, ht, rfl⟩ := hC
    have hct : (nI t).toNatClampNeg = t := nI_clamp (by omega)
    obtain ⟨⟨hk0, hk1, hk2⟩, hks, hkv⟩ := hI.2.2.1 t ht
    obtain ⟨hm4, hf4⟩ := rx4 hR ht
    obtain ⟨gf, hm5, hf5, he5⟩ := rx5 hR ht
    obtain ⟨gc, hm6, hf6, he6⟩ := rx6 hR ht
    refine hx_eq (show r = some (ad 4 t 0 0) from hr2 t ht rfl) ?_
    refine lv_astore (lv' := [(4, .ref (ad 4 t 0 0)), (0, .ref (ad 0 0 0 0)), (1, .int (nI (t))), (2, .int (field)), (3, .int (value))]) hx hb dX6_addField_5 hl (by decide) rfl (fun ls hl => ?_)
    refine lv_aload hx hb dX6_addField_7 (lv_at hl 0 rfl) ?_
    refine lv_ifnonnull (tgt := 15) hx hb dX6_addField_9 (by decide) ?_
    refine lv_aload hx hb dX6_addField_15 (lv_at hl 0 rfl) ?_
    refine xp_getN (host := RX6) S X (ci := 1) hm4 hf4 rfl hin1 4 (by decide) (by decide +kernel) rfl dX6_addField_17 ?_
    refine lv_if_ne (tgt := 26) hx hb dX6_addField_20 (by decide) (fun c20 => ?_) (fun c20 => ?_)
    · skip
      have hk3 : cnt σ t ≤ 7 := hks.elim (fun q => absurd q c20) (fun q => q.2)
      have hws1 : ws σ (nI t) = 0 := by rw [ws, wif_t hC', show cN (nI t) = t from hct, wif_f c20]
      refine lv_iload_n hx hb dX6_addField_26 rfl (lv_at hl 3 rfl) ?_
      refine hx_Si (rest := []) S X (c_X6_isField l G _ (field)) gX6_addField_X6_isField rfl (n := 1) (by decide +kernel) rfl ⟨(Nat.le_of_ble_eq_true rfl), (Nat.le_of_ble_eq_true rfl)⟩ hl.1 rfl (Nat.le_of_ble_eq_true rfl) dX6_addField_27 ⟨(Nat.le_of_ble_eq_true rfl), (Nat.le_of_ble_eq_true rfl)⟩ (fun r wd1 H locs hp X => ?_)
      obtain ⟨hr27, rfl⟩ := hp
      by_cases hfld : isF (field)
      · skip
        refine hx_ei (hr27.1 hfld) ?_
        refine lv_if_eq (tgt := 41) hx hb dX6_addField_30 (by decide) (fun c9 => absurd c9 (by decide)) (fun _ => ?_)
        refine lv_iload_n hx hb dX6_addField_33 rfl (lv_at hl 4 rfl) ?_
        refine lv_i2l (v := (value : Int32).toInt64) hx hb dX6_addField_34 rfl ?_
        refine hx_Si (rest := []) S X (c_X6_isValue l G _ ((value : Int32).toInt64)) gX6_addField_X6_isValue rfl (n := 1) (by decide +kernel) rfl ⟨(Nat.le_of_ble_eq_true rfl), (Nat.le_of_ble_eq_true rfl)⟩ hl.1 rfl (Nat.le_of_ble_eq_true rfl) dX6_addField_35 ⟨(Nat.le_of_ble_eq_true rfl), (Nat.le_of_ble_eq_true rfl)⟩ (fun r wd1 H locs hp X => ?_)
        obtain ⟨hr35, rfl⟩ := hp
        have hr35 := isB_iff (isVL_iff (value)) hr35
        by_cases hval : isVal (value)
        · skip
          refine hx_ei (hr35.1 hval) ?_
          refine lv_if_ne (tgt := 44) hx hb dX6_addField_38 (by decide) (fun _ => ?_) (fun c9 => absurd c9 (by decide))
          refine lv_aload hx hb dX6_addField_44 (lv_at hl 0 rfl) ?_
          refine hx_Vi (rest := []) S X (c_X1_stagedSet l G L f (ad 4 t 0 0) (ad 5 t 0 0) (ad 6 t 0 0) (cnt σ t - 1) (nI (t)) (σ 1 (162 * t + 1)) (gf) hm4 hf4 hm5 hf5 (by omega)) gX6_addField_X1_stagedSet rfl (n := 0) (by decide +kernel) rfl ⟨(Nat.le_of_ble_eq_true rfl), (Nat.le_of_ble_eq_true rfl)⟩ (xp_recv (ci := 1) X rfl hm4 hf4) hl.1 rfl (Nat.le_of_ble_eq_true rfl) dX6_addField_46 ⟨(Nat.le_of_ble_eq_true rfl), (Nat.le_of_ble_eq_true rfl)⟩ (fun r wd1 H locs hp X => ?_)
          obtain ⟨rfl, rfl⟩ := hp
          refine hx_ei (show _ = sset σ t from by rw [show cnt σ t - 1 + 1 = cnt σ t by omega]; exact he5 _ (by omega)) ?_
          refine lv_iload_n hx hb dX6_addField_49 rfl (lv_at hl 3 rfl) ?_
          refine hx_Si (rest := []) S X (c_X6_contains l G _ (sset σ t) (field)) gX6_addField_X6_contains rfl (n := 2) (by decide +kernel) rfl ⟨(Nat.le_of_ble_eq_true rfl), (Nat.le_of_ble_eq_true rfl)⟩ hl.1 rfl (Nat.le_of_ble_eq_true rfl) dX6_addField_50 ⟨(Nat.le_of_ble_eq_true rfl), (Nat.le_of_ble_eq_true rfl)⟩ (fun r wd1 H locs hp X => ?_)
          obtain ⟨hr50, rfl⟩ := hp
          by_cases hnh : hasF (sset σ t) (field)
          · skip
            refine hx_ei (hr50.1 hnh) ?_
            refine lv_if_eq (tgt := 59) hx hb dX6_addField_53 (by decide) (fun c9 => absurd c9 (by decide)) (fun _ => ?_)
            refine lv_ldc (v := -2000009) hx hb hown (hts (Cond.constant RX6 54 (-2000009)) (by decide +kernel)) dX6_addField_56 ?_
            exact hx_iret S X hr hlk (Nat.le_of_ble_eq_true rfl) (Nat.le_of_ble_eq_true rfl) ⟨by simp [M_addField, wif_t, wif_f, hC', hct, c20, hws1, hfld, hval, hnh], by simp [M_addField, wif_t, wif_f, hC', hct, c20, hws1, hfld, hval, hnh]; exact ⟨L, f, ad, rfl, hR, rfl⟩⟩ dX6_addField_58
          · skip
            refine hx_ei (hr50.2 hnh) ?_
            refine lv_if_eq (tgt := 59) hx hb dX6_addField_53 (by decide) (fun _ => ?_) (fun c9 => absurd (by decide) c9)
            refine lv_aload hx hb dX6_addField_59 (lv_at hl 0 rfl) ?_
            refine lv_iconst (v := 0) hx hb dX6_addField_61 (by decide) ?_
            refine lv_iload_n hx hb dX6_addField_62 rfl (lv_at hl 3 rfl) ?_
            refine lv_iload_n hx hb dX6_addField_63 rfl (lv_at hl 4 rfl) ?_
            obtain ⟨hm7, hf7⟩ := rx7 hR ht (v := cnt σ t) (by omega)
            obtain ⟨gs, hm8, hf8, he8⟩ := rx8 hR ht (v := cnt σ t) (by omega)
            have hl6 := (hkv (cnt σ t) (by omega)).1.2
            refine hx_Vi (rest := []) S X (c_X1_append l G L f (ad 4 t 0 0) (ad 5 t 0 0) (ad 6 t 0 0) (ad 7 t (cnt σ t) 0) (ad 8 t (cnt σ t) 0) (cnt σ t - 1) (stp σ t (cnt σ t)) (nI (t)) (σ 1 (162 * t + 1)) ((0 : Int32)) (field) (value) gf gc gs hm4 hf4 hm5 hf5 hm6 hf6 hm7 hf7 hm8 hf8 (by omega) (by rw [show cnt σ t - 1 + 1 = cnt σ t by omega]; exact he6 _ (by omega)) hl6 ⟨hfld, Or.inl ⟨rfl, hval⟩⟩) gX6_addField_X1_append rfl (n := 3) (by decide +kernel) rfl ⟨(Nat.le_of_ble_eq_true rfl), (Nat.le_of_ble_eq_true rfl)⟩ (xp_recv (ci := 1) X rfl hm4 hf4) hl.1 rfl (Nat.le_of_ble_eq_true rfl) dX6_addField_64 ⟨(Nat.le_of_ble_eq_true rfl), (Nat.le_of_ble_eq_true rfl)⟩ (fun r wd1 H locs hp X => ?_)
            have hct2 : cN (nI t) = t := hct
            have hM : M_addField σ (nI t) field value = M_append σ t 0 field value (sset σ t ||| (1 : Int32) <<< (field &&& 31)) := by rw [M_addField, wif_t hws1, hct2, wif_t ⟨hfld, hval⟩, wif_f hnh]
            have hfin := ap_post hI hR ht hk3 he5 he8 (r := r) (K := 0) (A := field) (B := value) (F := sset σ t ||| (1 : Int32) <<< (field &&& 31)) chS_0 hp
            rw [← hM] at hfin
            exact hx_iret S X hr hlk (Nat.le_of_ble_eq_true rfl) (Nat.le_of_ble_eq_true rfl) hfin dX6_addField_67
        · skip
          refine hx_ei (hr35.2 hval) ?_
          refine lv_if_ne (tgt := 44) hx hb dX6_addField_38 (by decide) (fun c9 => absurd (by decide) c9) (fun _ => ?_)
          refine lv_ldc (v := -2000007) hx hb hown (hts (Cond.constant RX6 28 (-2000007)) (by decide +kernel)) dX6_addField_41 ?_
          exact hx_iret S X hr hlk (Nat.le_of_ble_eq_true rfl) (Nat.le_of_ble_eq_true rfl) ⟨by simp [M_addField, wif_t, wif_f, hC', hct, c20, hws1, hfld, hval], by simp [M_addField, wif_t, wif_f, hC', hct, c20, hws1, hfld, hval]; exact ⟨L, f, ad, rfl, hR, rfl⟩⟩ dX6_addField_43
      · skip
        refine hx_ei (hr27.2 hfld) ?_
        refine lv_if_eq (tgt := 41) hx hb dX6_addField_30 (by decide) (fun _ => ?_) (fun c9 => absurd (by decide) c9)
        refine lv_ldc (v := -2000007) hx hb hown (hts (Cond.constant RX6 28 (-2000007)) (by decide +kernel)) dX6_addField_41 ?_
        exact hx_iret S X hr hlk (Nat.le_of_ble_eq_true rfl) (Nat.le_of_ble_eq_true rfl) ⟨by simp [M_addField, wif_t, wif_f, hC', hct, c20, hws1, hfld], by simp [M_addField, wif_t, wif_f, hC', hct, c20, hws1, hfld]; exact ⟨L, f, ad, rfl, hR, rfl⟩⟩ dX6_addField_43
    · skip
      have hws0 : ws σ (nI t) = -2000008 := by rw [ws, wif_t hC', show cN (nI t) = t from hct, wif_t c20]
      refine lv_ldc (v := -2000008) hx hb hown (hts (Cond.constant RX6 59 (-2000008)) (by decide +kernel)) dX6_addField_23 ?_
      exact hx_iret S X hr hlk (Nat.le_of_ble_eq_true rfl) (Nat.le_of_ble_eq_true rfl) ⟨by simp [M_addField, wif_t, wif_f, hC', hct, c20, hws0], by simp [M_addField, wif_t, wif_f, hC', hct, c20, hws0]; exact ⟨L, f, ad, rfl, hR, rfl⟩⟩ dX6_addField_25
  · skip
    refine hx_eq (show r = none from hs2 hC) ?_
    have hws2 : ws σ type = -2000001 := by rw [ws, wif_f hC]
    refine lv_astoreN (lv' := [(4, .null), (0, .ref (ad 0 0 0 0)), (1, .int (type)), (2, .int (field)), (3, .int (value))]) hx hb dX6_addField_5 hl (by decide) rfl (fun ls hl => ?_)
    refine lv_aloadN hx hb dX6_addField_7 (lv_at hl 0 rfl) ?_
    refine lv_ifnonnullN hx hb dX6_addField_9 ?_
    refine lv_ldc (v := -2000001) hx hb hown (hts (Cond.constant RX6 41 (-2000001)) (by decide +kernel)) dX6_addField_12 ?_
    exact hx_iret S X hr hlk (Nat.le_of_ble_eq_true rfl) (Nat.le_of_ble_eq_true rfl) ⟨by simp [M_addField, wif_t, wif_f, hC, hws2], by simp [M_addField, wif_t, wif_f, hC, hws2]; exact ⟨L, f, ad, rfl, hR, rfl⟩⟩ dX6_addField_14

set_option maxRecDepth 100000 in
set_option maxHeartbeats 4000000 in
theorem c_X6_dropField (l : Launch) (G : hG) (L : List Nat) (f : Nat → va_E) (ad : xAd) (σ : Sg) (type field : Int32) (hI : Inv σ) (hR : RX G L f ad σ)  : hMi l G yX6_dropField wsX6_dropField ({ frames := 3, cells := 1, slots := 3, locals := 67 } : Room) (va_pl L f) [.ref (ad 0 0 0 0), .int (type), .int (field)] (fun r w => r = (M_dropField σ type field).1 ∧ XPo G (ad 0 0 0 0) (M_dropField σ type field).2 w) := by
  refine hMi.of (cc := cX6_dropField) (maxL := 4) (some .int) RX6 rfl (by decide +kernel) rfl (Nat.le_of_ble_eq_true rfl) ?_
  intro p e s m args below meth c S hr hlk X ls hl
  have hx := S.1
  have hb := S.2.1
  have hown := S.2.2.2.1
  have hts := S.2.2.2.2
  have hl : lv_has ls 4 [(0, .ref (ad 0 0 0 0)), (1, .int (type)), (2, .int (field))] := hl
  have hin1 : ∀ w ∈ wsX10, w ∈ wsX6_dropField := by decide +kernel
  have hin2 : ∀ w ∈ wsX20, w ∈ wsX6_dropField := by decide +kernel
  have hin4 : ∀ w ∈ wsX40, w ∈ wsX6_dropField := by decide +kernel
  have hin6 : ∀ w ∈ wsX60, w ∈ wsX6_dropField := by decide +kernel
  have hC6 : nC σ ≤ 6 := hI.1.2
  have hO24 : nO σ ≤ 24 := hI.2.1.2
  obtain ⟨m0, f0⟩ := rx0 hR
  obtain ⟨g1, m1, f1, e1⟩ := rx1 hR
  obtain ⟨g2, m2, f2, e2⟩ := rx2 hR
  obtain ⟨g3, m3, f3, e3⟩ := rx3 hR
  refine lv_aload_n hx hb dX6_dropField_0 rfl (lv_at hl 0 rfl) ?_
  refine lv_iload_n hx hb dX6_dropField_1 rfl (lv_at hl 1 rfl) ?_
  refine hx_Vq (rest := []) S X (c_X6_historyOf l G L f ad σ (type) hI hR) gX6_dropField_X6_historyOf rfl (n := 1) (by decide +kernel) rfl ⟨(Nat.le_of_ble_eq_true rfl), (Nat.le_of_ble_eq_true rfl)⟩ (xp_recv (ci := 6) X rfl m0 f0) hl.1 rfl (Nat.le_of_ble_eq_true rfl) dX6_dropField_2 ⟨(Nat.le_of_ble_eq_true rfl), (Nat.le_of_ble_eq_true rfl)⟩ (fun r wd1 H locs hp X => ?_)
  obtain ⟨hr2, hs2, rfl⟩ := hp
  by_cases hC : isC σ (type)
  · skip
    have hC' := hC
    obtain ⟨t, ht, rfl⟩ := hC
    have hct : (nI t).toNatClampNeg = t := nI_clamp (by omega)
    obtain ⟨⟨hk0, hk1, hk2⟩, hks, hkv⟩ := hI.2.2.1 t ht
    obtain ⟨hm4, hf4⟩ := rx4 hR ht
    obtain ⟨gf, hm5, hf5, he5⟩ := rx5 hR ht
    obtain ⟨gc, hm6, hf6, he6⟩ := rx6 hR ht
    refine hx_eq (show r = some (ad 4 t 0 0) from hr2 t ht rfl) ?_
    refine lv_astore_n (lv' := [(3, .ref (ad 4 t 0 0)), (0, .ref (ad 0 0 0 0)), (1, .int (nI (t))), (2, .int (field))]) hx hb dX6_dropField_5 rfl hl (by decide) rfl (fun ls hl => ?_)
    refine lv_aload_n hx hb dX6_dropField_6 rfl (lv_at hl 0 rfl) ?_
    refine lv_ifnonnull (tgt := 13) hx hb dX6_dropField_7 (by decide) ?_
    refine lv_aload_n hx hb dX6_dropField_13 rfl (lv_at hl 0 rfl) ?_
    refine xp_getN (host := RX6) S X (ci := 1) hm4 hf4 rfl hin1 4 (by decide) (by decide +kernel) rfl dX6_dropField_14 ?_
    refine lv_if_ne (tgt := 23) hx hb dX6_dropField_17 (by decide) (fun c17 => ?_) (fun c17 => ?_)
    · skip
      have hk3 : cnt σ t ≤ 7 := hks.elim (fun q => absurd q c17) (fun q => q.2)
      have hws1 : ws σ (nI t) = 0 := by rw [ws, wif_t hC', show cN (nI t) = t from hct, wif_f c17]
      refine lv_aload_n hx hb dX6_dropField_23 rfl (lv_at hl 0 rfl) ?_
      refine hx_Vi (rest := []) S X (c_X1_stagedSet l G L f (ad 4 t 0 0) (ad 5 t 0 0) (ad 6 t 0 0) (cnt σ t - 1) (nI (t)) (σ 1 (162 * t + 1)) (gf) hm4 hf4 hm5 hf5 (by omega)) gX6_dropField_X1_stagedSet rfl (n := 0) (by decide +kernel) rfl ⟨(Nat.le_of_ble_eq_true rfl), (Nat.le_of_ble_eq_true rfl)⟩ (xp_recv (ci := 1) X rfl hm4 hf4) hl.1 rfl (Nat.le_of_ble_eq_true rfl) dX6_dropField_24 ⟨(Nat.le_of_ble_eq_true rfl), (Nat.le_of_ble_eq_true rfl)⟩ (fun r wd1 H locs hp X => ?_)
      obtain ⟨rfl, rfl⟩ := hp
      refine hx_ei (show _ = sset σ t from by rw [show cnt σ t - 1 + 1 = cnt σ t by omega]; exact he5 _ (by omega)) ?_
      refine lv_iload_n hx hb dX6_dropField_27 rfl (lv_at hl 3 rfl) ?_
      refine hx_Si (rest := []) S X (c_X6_contains l G _ (sset σ t) (field)) gX6_dropField_X6_contains rfl (n := 2) (by decide +kernel) rfl ⟨(Nat.le_of_ble_eq_true rfl), (Nat.le_of_ble_eq_true rfl)⟩ hl.1 rfl (Nat.le_of_ble_eq_true rfl) dX6_dropField_28 ⟨(Nat.le_of_ble_eq_true rfl), (Nat.le_of_ble_eq_true rfl)⟩ (fun r wd1 H locs hp X => ?_)
      obtain ⟨hr28, rfl⟩ := hp
      by_cases hh : hasF (sset σ t) (field)
      · skip
        refine hx_ei (hr28.1 hh) ?_
        refine lv_if_ne (tgt := 37) hx hb dX6_dropField_31 (by decide) (fun _ => ?_) (fun c9 => absurd c9 (by decide))
        refine lv_aload_n hx hb dX6_dropField_37 rfl (lv_at hl 0 rfl) ?_
        refine lv_iconst (v := 1) hx hb dX6_dropField_38 (by decide) ?_
        refine lv_iload_n hx hb dX6_dropField_39 rfl (lv_at hl 3 rfl) ?_
        refine lv_iconst (v := 0) hx hb dX6_dropField_40 (by decide) ?_
        obtain ⟨hm7, hf7⟩ := rx7 hR ht (v := cnt σ t) (by omega)
        obtain ⟨gs, hm8, hf8, he8⟩ := rx8 hR ht (v := cnt σ t) (by omega)
        have hl6 := (hkv (cnt σ t) (by omega)).1.2
        refine hx_Vi (rest := []) S X (c_X1_append l G L f (ad 4 t 0 0) (ad 5 t 0 0) (ad 6 t 0 0) (ad 7 t (cnt σ t) 0) (ad 8 t (cnt σ t) 0) (cnt σ t - 1) (stp σ t (cnt σ t)) (nI (t)) (σ 1 (162 * t + 1)) ((1 : Int32)) (field) ((0 : Int32)) gf gc gs hm4 hf4 hm5 hf5 hm6 hf6 hm7 hf7 hm8 hf8 (by omega) (by rw [show cnt σ t - 1 + 1 = cnt σ t by omega]; exact he6 _ (by omega)) hl6 ⟨hh.1, Or.inr (Or.inl rfl)⟩) gX6_dropField_X1_append rfl (n := 3) (by decide +kernel) rfl ⟨(Nat.le_of_ble_eq_true rfl), (Nat.le_of_ble_eq_true rfl)⟩ (xp_recv (ci := 1) X rfl hm4 hf4) hl.1 rfl (Nat.le_of_ble_eq_true rfl) dX6_dropField_41 ⟨(Nat.le_of_ble_eq_true rfl), (Nat.le_of_ble_eq_true rfl)⟩ (fun r wd1 H locs hp X => ?_)
        have hct2 : cN (nI t) = t := hct
        have hM : M_dropField σ (nI t) field = M_append σ t 1 field 0 (sset σ t &&& (((1 : Int32) <<< (field &&& 31)) ^^^ (-1 : Int32))) := by rw [M_dropField, wif_t hws1, hct2, wif_t hh]
        have hfin := ap_post hI hR ht hk3 he5 he8 (r := r) (K := 1) (A := field) (B := 0) (F := sset σ t &&& (((1 : Int32) <<< (field &&& 31)) ^^^ (-1 : Int32))) chS_1 hp
        rw [← hM] at hfin
        exact hx_iret S X hr hlk (Nat.le_of_ble_eq_true rfl) (Nat.le_of_ble_eq_true rfl) hfin dX6_dropField_44
      · skip
        refine hx_ei (hr28.2 hh) ?_
        refine lv_if_ne (tgt := 37) hx hb dX6_dropField_31 (by decide) (fun c9 => absurd (by decide) c9) (fun _ => ?_)
        refine lv_ldc (v := -2000005) hx hb hown (hts (Cond.constant RX6 81 (-2000005)) (by decide +kernel)) dX6_dropField_34 ?_
        exact hx_iret S X hr hlk (Nat.le_of_ble_eq_true rfl) (Nat.le_of_ble_eq_true rfl) ⟨by simp [M_dropField, wif_t, wif_f, hC', hct, c17, hws1, hh], by simp [M_dropField, wif_t, wif_f, hC', hct, c17, hws1, hh]; exact ⟨L, f, ad, rfl, hR, rfl⟩⟩ dX6_dropField_36
    · skip
      have hws0 : ws σ (nI t) = -2000008 := by rw [ws, wif_t hC', show cN (nI t) = t from hct, wif_t c17]
      refine lv_ldc (v := -2000008) hx hb hown (hts (Cond.constant RX6 59 (-2000008)) (by decide +kernel)) dX6_dropField_20 ?_
      exact hx_iret S X hr hlk (Nat.le_of_ble_eq_true rfl) (Nat.le_of_ble_eq_true rfl) ⟨by simp [M_dropField, wif_t, wif_f, hC', hct, c17, hws0], by simp [M_dropField, wif_t, wif_f, hC', hct, c17, hws0]; exact ⟨L, f, ad, rfl, hR, rfl⟩⟩ dX6_dropField_22
  · skip
    refine hx_eq (show r = none from hs2 hC) ?_
    have hws2 : ws σ type = -2000001 := by rw [ws, wif_f hC]
    refine lv_astore_nN (lv' := [(3, .null), (0, .ref (ad 0 0 0 0)), (1, .int (type)), (2, .int (field))]) hx hb dX6_dropField_5 rfl hl (by decide) rfl (fun ls hl => ?_)
    refine lv_aload_nN hx hb dX6_dropField_6 rfl (lv_at hl 0 rfl) ?_
    refine lv_ifnonnullN hx hb dX6_dropField_7 ?_
    refine lv_ldc (v := -2000001) hx hb hown (hts (Cond.constant RX6 41 (-2000001)) (by decide +kernel)) dX6_dropField_10 ?_
    exact hx_iret S X hr hlk (Nat.le_of_ble_eq_true rfl) (Nat.le_of_ble_eq_true rfl) ⟨by simp [M_dropField, wif_t, wif_f, hC, hws2], by simp [M_dropField, wif_t, wif_f, hC, hws2]; exact ⟨L, f, ad, rfl, hR, rfl⟩⟩ dX6_dropField_12

set_option maxRecDepth 100000 in
set_option maxHeartbeats 4000000 in
theorem c_X6_renameField (l : Launch) (G : hG) (L : List Nat) (f : Nat → va_E) (ad : xAd) (σ : Sg) (type fr to : Int32) (hI : Inv σ) (hR : RX G L f ad σ)  : hMi l G yX6_renameField wsX6_renameField ({ frames := 3, cells := 1, slots := 3, locals := 67 } : Room) (va_pl L f) [.ref (ad 0 0 0 0), .int (type), .int (fr), .int (to)] (fun r w => r = (M_renameField σ type fr to).1 ∧ XPo G (ad 0 0 0 0) (M_renameField σ type fr to).2 w) := by
  refine hMi.of (cc := cX6_renameField) (maxL := 5) (some .int) RX6 rfl (by decide +kernel) rfl (Nat.le_of_ble_eq_true rfl) ?_
  intro p e s m args below meth c S hr hlk X ls hl
  have hx := S.1
  have hb := S.2.1
  have hown := S.2.2.2.1
  have hts := S.2.2.2.2
  have hl : lv_has ls 5 [(0, .ref (ad 0 0 0 0)), (1, .int (type)), (2, .int (fr)), (3, .int (to))] := hl
  have hin1 : ∀ w ∈ wsX10, w ∈ wsX6_renameField := by decide +kernel
  have hin2 : ∀ w ∈ wsX20, w ∈ wsX6_renameField := by decide +kernel
  have hin4 : ∀ w ∈ wsX40, w ∈ wsX6_renameField := by decide +kernel
  have hin6 : ∀ w ∈ wsX60, w ∈ wsX6_renameField := by decide +kernel
  have hC6 : nC σ ≤ 6 := hI.1.2
  have hO24 : nO σ ≤ 24 := hI.2.1.2
  obtain ⟨m0, f0⟩ := rx0 hR
  obtain ⟨g1, m1, f1, e1⟩ := rx1 hR
  obtain ⟨g2, m2, f2, e2⟩ := rx2 hR
  obtain ⟨g3, m3, f3, e3⟩ := rx3 hR
  refine lv_aload_n hx hb dX6_renameField_0 rfl (lv_at hl 0 rfl) ?_
  refine lv_iload_n hx hb dX6_renameField_1 rfl (lv_at hl 1 rfl) ?_
  refine hx_Vq (rest := []) S X (c_X6_historyOf l G L f ad σ (type) hI hR) gX6_renameField_X6_historyOf rfl (n := 1) (by decide +kernel) rfl ⟨(Nat.le_of_ble_eq_true rfl), (Nat.le_of_ble_eq_true rfl)⟩ (xp_recv (ci := 6) X rfl m0 f0) hl.1 rfl (Nat.le_of_ble_eq_true rfl) dX6_renameField_2 ⟨(Nat.le_of_ble_eq_true rfl), (Nat.le_of_ble_eq_true rfl)⟩ (fun r wd1 H locs hp X => ?_)
  obtain ⟨hr2, hs2, rfl⟩ := hp
  by_cases hC : isC σ (type)
  · skip
    have hC' := hC
    obtain ⟨t, ht, rfl⟩ := hC
    have hct : (nI t).toNatClampNeg = t := nI_clamp (by omega)
    obtain ⟨⟨hk0, hk1, hk2⟩, hks, hkv⟩ := hI.2.2.1 t ht
    obtain ⟨hm4, hf4⟩ := rx4 hR ht
    obtain ⟨gf, hm5, hf5, he5⟩ := rx5 hR ht
    obtain ⟨gc, hm6, hf6, he6⟩ := rx6 hR ht
    refine hx_eq (show r = some (ad 4 t 0 0) from hr2 t ht rfl) ?_
    refine lv_astore (lv' := [(4, .ref (ad 4 t 0 0)), (0, .ref (ad 0 0 0 0)), (1, .int (nI (t))), (2, .int (fr)), (3, .int (to))]) hx hb dX6_renameField_5 hl (by decide) rfl (fun ls hl => ?_)
    refine lv_aload hx hb dX6_renameField_7 (lv_at hl 0 rfl) ?_
    refine lv_ifnonnull (tgt := 15) hx hb dX6_renameField_9 (by decide) ?_
    refine lv_aload hx hb dX6_renameField_15 (lv_at hl 0 rfl) ?_
    refine xp_getN (host := RX6) S X (ci := 1) hm4 hf4 rfl hin1 4 (by decide) (by decide +kernel) rfl dX6_renameField_17 ?_
    refine lv_if_ne (tgt := 26) hx hb dX6_renameField_20 (by decide) (fun c20 => ?_) (fun c20 => ?_)
    · skip
      have hk3 : cnt σ t ≤ 7 := hks.elim (fun q => absurd q c20) (fun q => q.2)
      have hws1 : ws σ (nI t) = 0 := by rw [ws, wif_t hC', show cN (nI t) = t from hct, wif_f c20]
      refine lv_aload hx hb dX6_renameField_26 (lv_at hl 0 rfl) ?_
      refine hx_Vi (rest := []) S X (c_X1_stagedSet l G L f (ad 4 t 0 0) (ad 5 t 0 0) (ad 6 t 0 0) (cnt σ t - 1) (nI (t)) (σ 1 (162 * t + 1)) (gf) hm4 hf4 hm5 hf5 (by omega)) gX6_renameField_X1_stagedSet rfl (n := 0) (by decide +kernel) rfl ⟨(Nat.le_of_ble_eq_true rfl), (Nat.le_of_ble_eq_true rfl)⟩ (xp_recv (ci := 1) X rfl hm4 hf4) hl.1 rfl (Nat.le_of_ble_eq_true rfl) dX6_renameField_28 ⟨(Nat.le_of_ble_eq_true rfl), (Nat.le_of_ble_eq_true rfl)⟩ (fun r wd1 H locs hp X => ?_)
      obtain ⟨rfl, rfl⟩ := hp
      refine hx_ei (show _ = sset σ t from by rw [show cnt σ t - 1 + 1 = cnt σ t by omega]; exact he5 _ (by omega)) ?_
      refine lv_iload_n hx hb dX6_renameField_31 rfl (lv_at hl 3 rfl) ?_
      refine hx_Si (rest := []) S X (c_X6_contains l G _ (sset σ t) (fr)) gX6_renameField_X6_contains rfl (n := 2) (by decide +kernel) rfl ⟨(Nat.le_of_ble_eq_true rfl), (Nat.le_of_ble_eq_true rfl)⟩ hl.1 rfl (Nat.le_of_ble_eq_true rfl) dX6_renameField_32 ⟨(Nat.le_of_ble_eq_true rfl), (Nat.le_of_ble_eq_true rfl)⟩ (fun r wd1 H locs hp X => ?_)
      obtain ⟨hr32, rfl⟩ := hp
      by_cases hh : hasF (sset σ t) (fr)
      · skip
        refine hx_ei (hr32.1 hh) ?_
        refine lv_if_ne (tgt := 41) hx hb dX6_renameField_35 (by decide) (fun _ => ?_) (fun c9 => absurd c9 (by decide))
        refine lv_iload_n hx hb dX6_renameField_41 rfl (lv_at hl 4 rfl) ?_
        refine hx_Si (rest := []) S X (c_X6_isField l G _ (to)) gX6_renameField_X6_isField rfl (n := 1) (by decide +kernel) rfl ⟨(Nat.le_of_ble_eq_true rfl), (Nat.le_of_ble_eq_true rfl)⟩ hl.1 rfl (Nat.le_of_ble_eq_true rfl) dX6_renameField_42 ⟨(Nat.le_of_ble_eq_true rfl), (Nat.le_of_ble_eq_true rfl)⟩ (fun r wd1 H locs hp X => ?_)
        obtain ⟨hr42, rfl⟩ := hp
        by_cases hto : isF (to)
        · skip
          refine hx_ei (hr42.1 hto) ?_
          refine lv_if_ne (tgt := 51) hx hb dX6_renameField_45 (by decide) (fun _ => ?_) (fun c9 => absurd c9 (by decide))
          refine lv_aload hx hb dX6_renameField_51 (lv_at hl 0 rfl) ?_
          refine hx_Vi (rest := []) S X (c_X1_stagedSet l G L f (ad 4 t 0 0) (ad 5 t 0 0) (ad 6 t 0 0) (cnt σ t - 1) (nI (t)) (σ 1 (162 * t + 1)) (gf) hm4 hf4 hm5 hf5 (by omega)) gX6_renameField_X1_stagedSet rfl (n := 0) (by decide +kernel) rfl ⟨(Nat.le_of_ble_eq_true rfl), (Nat.le_of_ble_eq_true rfl)⟩ (xp_recv (ci := 1) X rfl hm4 hf4) hl.1 rfl (Nat.le_of_ble_eq_true rfl) dX6_renameField_53 ⟨(Nat.le_of_ble_eq_true rfl), (Nat.le_of_ble_eq_true rfl)⟩ (fun r wd1 H locs hp X => ?_)
          obtain ⟨rfl, rfl⟩ := hp
          refine hx_ei (show _ = sset σ t from by rw [show cnt σ t - 1 + 1 = cnt σ t by omega]; exact he5 _ (by omega)) ?_
          refine lv_iload_n hx hb dX6_renameField_56 rfl (lv_at hl 4 rfl) ?_
          refine hx_Si (rest := []) S X (c_X6_contains l G _ (sset σ t) (to)) gX6_renameField_X6_contains rfl (n := 2) (by decide +kernel) rfl ⟨(Nat.le_of_ble_eq_true rfl), (Nat.le_of_ble_eq_true rfl)⟩ hl.1 rfl (Nat.le_of_ble_eq_true rfl) dX6_renameField_57 ⟨(Nat.le_of_ble_eq_true rfl), (Nat.le_of_ble_eq_true rfl)⟩ (fun r wd1 H locs hp X => ?_)
          obtain ⟨hr57, rfl⟩ := hp
          by_cases hnh : hasF (sset σ t) (to)
          · skip
            refine hx_ei (hr57.1 hnh) ?_
            refine lv_if_eq (tgt := 66) hx hb dX6_renameField_60 (by decide) (fun c9 => absurd c9 (by decide)) (fun _ => ?_)
            refine lv_ldc (v := -2000009) hx hb hown (hts (Cond.constant RX6 54 (-2000009)) (by decide +kernel)) dX6_renameField_63 ?_
            exact hx_iret S X hr hlk (Nat.le_of_ble_eq_true rfl) (Nat.le_of_ble_eq_true rfl) ⟨by simp [M_renameField, wif_t, wif_f, hC', hct, c20, hws1, hh, hto, hnh], by simp [M_renameField, wif_t, wif_f, hC', hct, c20, hws1, hh, hto, hnh]; exact ⟨L, f, ad, rfl, hR, rfl⟩⟩ dX6_renameField_65
          · skip
            refine hx_ei (hr57.2 hnh) ?_
            refine lv_if_eq (tgt := 66) hx hb dX6_renameField_60 (by decide) (fun _ => ?_) (fun c9 => absurd (by decide) c9)
            refine lv_aload hx hb dX6_renameField_66 (lv_at hl 0 rfl) ?_
            refine lv_iconst (v := 2) hx hb dX6_renameField_68 (by decide) ?_
            refine lv_iload_n hx hb dX6_renameField_69 rfl (lv_at hl 3 rfl) ?_
            refine lv_iload_n hx hb dX6_renameField_70 rfl (lv_at hl 4 rfl) ?_
            obtain ⟨hm7, hf7⟩ := rx7 hR ht (v := cnt σ t) (by omega)
            obtain ⟨gs, hm8, hf8, he8⟩ := rx8 hR ht (v := cnt σ t) (by omega)
            have hl6 := (hkv (cnt σ t) (by omega)).1.2
            refine hx_Vi (rest := []) S X (c_X1_append l G L f (ad 4 t 0 0) (ad 5 t 0 0) (ad 6 t 0 0) (ad 7 t (cnt σ t) 0) (ad 8 t (cnt σ t) 0) (cnt σ t - 1) (stp σ t (cnt σ t)) (nI (t)) (σ 1 (162 * t + 1)) ((2 : Int32)) (fr) (to) gf gc gs hm4 hf4 hm5 hf5 hm6 hf6 hm7 hf7 hm8 hf8 (by omega) (by rw [show cnt σ t - 1 + 1 = cnt σ t by omega]; exact he6 _ (by omega)) hl6 ⟨hh.1, Or.inr (Or.inr (Or.inl ⟨rfl, hto⟩))⟩) gX6_renameField_X1_append rfl (n := 3) (by decide +kernel) rfl ⟨(Nat.le_of_ble_eq_true rfl), (Nat.le_of_ble_eq_true rfl)⟩ (xp_recv (ci := 1) X rfl hm4 hf4) hl.1 rfl (Nat.le_of_ble_eq_true rfl) dX6_renameField_71 ⟨(Nat.le_of_ble_eq_true rfl), (Nat.le_of_ble_eq_true rfl)⟩ (fun r wd1 H locs hp X => ?_)
            have hct2 : cN (nI t) = t := hct
            have hM : M_renameField σ (nI t) fr to = M_append σ t 2 fr to ((sset σ t &&& (((1 : Int32) <<< (fr &&& 31)) ^^^ (-1 : Int32))) ||| (1 : Int32) <<< (to &&& 31)) := by rw [M_renameField, wif_t hws1, hct2, wif_t hh, wif_t hto, wif_f hnh]
            have hfin := ap_post hI hR ht hk3 he5 he8 (r := r) (K := 2) (A := fr) (B := to) (F := (sset σ t &&& (((1 : Int32) <<< (fr &&& 31)) ^^^ (-1 : Int32))) ||| (1 : Int32) <<< (to &&& 31)) chS_2 hp
            rw [← hM] at hfin
            exact hx_iret S X hr hlk (Nat.le_of_ble_eq_true rfl) (Nat.le_of_ble_eq_true rfl) hfin dX6_renameField_74
        · skip
          refine hx_ei (hr42.2 hto) ?_
          refine lv_if_ne (tgt := 51) hx hb dX6_renameField_45 (by decide) (fun c9 => absurd (by decide) c9) (fun _ => ?_)
          refine lv_ldc (v := -2000007) hx hb hown (hts (Cond.constant RX6 28 (-2000007)) (by decide +kernel)) dX6_renameField_48 ?_
          exact hx_iret S X hr hlk (Nat.le_of_ble_eq_true rfl) (Nat.le_of_ble_eq_true rfl) ⟨by simp [M_renameField, wif_t, wif_f, hC', hct, c20, hws1, hh, hto], by simp [M_renameField, wif_t, wif_f, hC', hct, c20, hws1, hh, hto]; exact ⟨L, f, ad, rfl, hR, rfl⟩⟩ dX6_renameField_50
      · skip
        refine hx_ei (hr32.2 hh) ?_
        refine lv_if_ne (tgt := 41) hx hb dX6_renameField_35 (by decide) (fun c9 => absurd (by decide) c9) (fun _ => ?_)
        refine lv_ldc (v := -2000005) hx hb hown (hts (Cond.constant RX6 81 (-2000005)) (by decide +kernel)) dX6_renameField_38 ?_
        exact hx_iret S X hr hlk (Nat.le_of_ble_eq_true rfl) (Nat.le_of_ble_eq_true rfl) ⟨by simp [M_renameField, wif_t, wif_f, hC', hct, c20, hws1, hh], by simp [M_renameField, wif_t, wif_f, hC', hct, c20, hws1, hh]; exact ⟨L, f, ad, rfl, hR, rfl⟩⟩ dX6_renameField_40
    · skip
      have hws0 : ws σ (nI t) = -2000008 := by rw [ws, wif_t hC', show cN (nI t) = t from hct, wif_t c20]
      refine lv_ldc (v := -2000008) hx hb hown (hts (Cond.constant RX6 59 (-2000008)) (by decide +kernel)) dX6_renameField_23 ?_
      exact hx_iret S X hr hlk (Nat.le_of_ble_eq_true rfl) (Nat.le_of_ble_eq_true rfl) ⟨by simp [M_renameField, wif_t, wif_f, hC', hct, c20, hws0], by simp [M_renameField, wif_t, wif_f, hC', hct, c20, hws0]; exact ⟨L, f, ad, rfl, hR, rfl⟩⟩ dX6_renameField_25
  · skip
    refine hx_eq (show r = none from hs2 hC) ?_
    have hws2 : ws σ type = -2000001 := by rw [ws, wif_f hC]
    refine lv_astoreN (lv' := [(4, .null), (0, .ref (ad 0 0 0 0)), (1, .int (type)), (2, .int (fr)), (3, .int (to))]) hx hb dX6_renameField_5 hl (by decide) rfl (fun ls hl => ?_)
    refine lv_aloadN hx hb dX6_renameField_7 (lv_at hl 0 rfl) ?_
    refine lv_ifnonnullN hx hb dX6_renameField_9 ?_
    refine lv_ldc (v := -2000001) hx hb hown (hts (Cond.constant RX6 41 (-2000001)) (by decide +kernel)) dX6_renameField_12 ?_
    exact hx_iret S X hr hlk (Nat.le_of_ble_eq_true rfl) (Nat.le_of_ble_eq_true rfl) ⟨by simp [M_renameField, wif_t, wif_f, hC, hws2], by simp [M_renameField, wif_t, wif_f, hC, hws2]; exact ⟨L, f, ad, rfl, hR, rfl⟩⟩ dX6_renameField_14

set_option maxRecDepth 100000 in
set_option maxHeartbeats 4000000 in
theorem c_X6_scaleField (l : Launch) (G : hG) (L : List Nat) (f : Nat → va_E) (ad : xAd) (σ : Sg) (type field factor : Int32) (hI : Inv σ) (hR : RX G L f ad σ)  : hMi l G yX6_scaleField wsX6_scaleField ({ frames := 3, cells := 1, slots := 3, locals := 67 } : Room) (va_pl L f) [.ref (ad 0 0 0 0), .int (type), .int (field), .int (factor)] (fun r w => r = (M_scaleField σ type field factor).1 ∧ XPo G (ad 0 0 0 0) (M_scaleField σ type field factor).2 w) := by
  refine hMi.of (cc := cX6_scaleField) (maxL := 5) (some .int) RX6 rfl (by decide +kernel) rfl (Nat.le_of_ble_eq_true rfl) ?_
  intro p e s m args below meth c S hr hlk X ls hl
  have hx := S.1
  have hb := S.2.1
  have hown := S.2.2.2.1
  have hts := S.2.2.2.2
  have hl : lv_has ls 5 [(0, .ref (ad 0 0 0 0)), (1, .int (type)), (2, .int (field)), (3, .int (factor))] := hl
  have hin1 : ∀ w ∈ wsX10, w ∈ wsX6_scaleField := by decide +kernel
  have hin2 : ∀ w ∈ wsX20, w ∈ wsX6_scaleField := by decide +kernel
  have hin4 : ∀ w ∈ wsX40, w ∈ wsX6_scaleField := by decide +kernel
  have hin6 : ∀ w ∈ wsX60, w ∈ wsX6_scaleField := by decide +kernel
  have hC6 : nC σ ≤ 6 := hI.1.2
  have hO24 : nO σ ≤ 24 := hI.2.1.2
  obtain ⟨m0, f0⟩ := rx0 hR
  obtain ⟨g1, m1, f1, e1⟩ := rx1 hR
  obtain ⟨g2, m2, f2, e2⟩ := rx2 hR
  obtain ⟨g3, m3, f3, e3⟩ := rx3 hR
  refine lv_aload_n hx hb dX6_scaleField_0 rfl (lv_at hl 0 rfl) ?_
  refine lv_iload_n hx hb dX6_scaleField_1 rfl (lv_at hl 1 rfl) ?_
  refine hx_Vq (rest := []) S X (c_X6_historyOf l G L f ad σ (type) hI hR) gX6_scaleField_X6_historyOf rfl (n := 1) (by decide +kernel) rfl ⟨(Nat.le_of_ble_eq_true rfl), (Nat.le_of_ble_eq_true rfl)⟩ (xp_recv (ci := 6) X rfl m0 f0) hl.1 rfl (Nat.le_of_ble_eq_true rfl) dX6_scaleField_2 ⟨(Nat.le_of_ble_eq_true rfl), (Nat.le_of_ble_eq_true rfl)⟩ (fun r wd1 H locs hp X => ?_)
  obtain ⟨hr2, hs2, rfl⟩ := hp
  by_cases hC : isC σ (type)
  · skip
    have hC' := hC
    obtain ⟨t, ht, rfl⟩ := hC
    have hct : (nI t).toNatClampNeg = t := nI_clamp (by omega)
    obtain ⟨⟨hk0, hk1, hk2⟩, hks, hkv⟩ := hI.2.2.1 t ht
    obtain ⟨hm4, hf4⟩ := rx4 hR ht
    obtain ⟨gf, hm5, hf5, he5⟩ := rx5 hR ht
    obtain ⟨gc, hm6, hf6, he6⟩ := rx6 hR ht
    refine hx_eq (show r = some (ad 4 t 0 0) from hr2 t ht rfl) ?_
    refine lv_astore (lv' := [(4, .ref (ad 4 t 0 0)), (0, .ref (ad 0 0 0 0)), (1, .int (nI (t))), (2, .int (field)), (3, .int (factor))]) hx hb dX6_scaleField_5 hl (by decide) rfl (fun ls hl => ?_)
    refine lv_aload hx hb dX6_scaleField_7 (lv_at hl 0 rfl) ?_
    refine lv_ifnonnull (tgt := 15) hx hb dX6_scaleField_9 (by decide) ?_
    refine lv_aload hx hb dX6_scaleField_15 (lv_at hl 0 rfl) ?_
    refine xp_getN (host := RX6) S X (ci := 1) hm4 hf4 rfl hin1 4 (by decide) (by decide +kernel) rfl dX6_scaleField_17 ?_
    refine lv_if_ne (tgt := 26) hx hb dX6_scaleField_20 (by decide) (fun c20 => ?_) (fun c20 => ?_)
    · skip
      have hk3 : cnt σ t ≤ 7 := hks.elim (fun q => absurd q c20) (fun q => q.2)
      have hws1 : ws σ (nI t) = 0 := by rw [ws, wif_t hC', show cN (nI t) = t from hct, wif_f c20]
      refine lv_aload hx hb dX6_scaleField_26 (lv_at hl 0 rfl) ?_
      refine hx_Vi (rest := []) S X (c_X1_stagedSet l G L f (ad 4 t 0 0) (ad 5 t 0 0) (ad 6 t 0 0) (cnt σ t - 1) (nI (t)) (σ 1 (162 * t + 1)) (gf) hm4 hf4 hm5 hf5 (by omega)) gX6_scaleField_X1_stagedSet rfl (n := 0) (by decide +kernel) rfl ⟨(Nat.le_of_ble_eq_true rfl), (Nat.le_of_ble_eq_true rfl)⟩ (xp_recv (ci := 1) X rfl hm4 hf4) hl.1 rfl (Nat.le_of_ble_eq_true rfl) dX6_scaleField_28 ⟨(Nat.le_of_ble_eq_true rfl), (Nat.le_of_ble_eq_true rfl)⟩ (fun r wd1 H locs hp X => ?_)
      obtain ⟨rfl, rfl⟩ := hp
      refine hx_ei (show _ = sset σ t from by rw [show cnt σ t - 1 + 1 = cnt σ t by omega]; exact he5 _ (by omega)) ?_
      refine lv_iload_n hx hb dX6_scaleField_31 rfl (lv_at hl 3 rfl) ?_
      refine hx_Si (rest := []) S X (c_X6_contains l G _ (sset σ t) (field)) gX6_scaleField_X6_contains rfl (n := 2) (by decide +kernel) rfl ⟨(Nat.le_of_ble_eq_true rfl), (Nat.le_of_ble_eq_true rfl)⟩ hl.1 rfl (Nat.le_of_ble_eq_true rfl) dX6_scaleField_32 ⟨(Nat.le_of_ble_eq_true rfl), (Nat.le_of_ble_eq_true rfl)⟩ (fun r wd1 H locs hp X => ?_)
      obtain ⟨hr32, rfl⟩ := hp
      by_cases hh : hasF (sset σ t) (field)
      · skip
        refine hx_ei (hr32.1 hh) ?_
        refine lv_if_ne (tgt := 41) hx hb dX6_scaleField_35 (by decide) (fun _ => ?_) (fun c9 => absurd c9 (by decide))
        refine lv_iload_n hx hb dX6_scaleField_41 rfl (lv_at hl 4 rfl) ?_
        refine lv_ldc (v := -100000) hx hb hown (hts (Cond.constant RX6 82 (-100000)) (by decide +kernel)) dX6_scaleField_42 ?_
        refine lv_icmp_lt (tgt := 53) hx hb dX6_scaleField_44 (by decide) (fun c44 => ?_) (fun c44 => ?_)
        · skip
          have hbad : ¬ (-100000 ≤ factor ∧ factor ≤ 100000) := fun q => absurd c44 (Int32.not_lt.mpr q.1)
          refine lv_ldc (v := -2000007) hx hb hown (hts (Cond.constant RX6 28 (-2000007)) (by decide +kernel)) dX6_scaleField_53 ?_
          exact hx_iret S X hr hlk (Nat.le_of_ble_eq_true rfl) (Nat.le_of_ble_eq_true rfl) ⟨by simp [M_scaleField, wif_t, wif_f, hC', hct, c20, hws1, hh, c44, hbad], by simp [M_scaleField, wif_t, wif_f, hC', hct, c20, hws1, hh, c44, hbad]; exact ⟨L, f, ad, rfl, hR, rfl⟩⟩ dX6_scaleField_55
        · skip
          refine lv_iload_n hx hb dX6_scaleField_47 rfl (lv_at hl 4 rfl) ?_
          refine lv_ldc (v := 100000) hx hb hown (hts (Cond.constant RX6 83 (100000)) (by decide +kernel)) dX6_scaleField_48 ?_
          refine lv_icmp_le (tgt := 56) hx hb dX6_scaleField_50 (by decide) (fun c50 => ?_) (fun c50 => ?_)
          · skip
            refine lv_aload hx hb dX6_scaleField_56 (lv_at hl 0 rfl) ?_
            refine lv_iconst (v := 3) hx hb dX6_scaleField_58 (by decide) ?_
            refine lv_iload_n hx hb dX6_scaleField_59 rfl (lv_at hl 3 rfl) ?_
            refine lv_iload_n hx hb dX6_scaleField_60 rfl (lv_at hl 4 rfl) ?_
            obtain ⟨hm7, hf7⟩ := rx7 hR ht (v := cnt σ t) (by omega)
            obtain ⟨gs, hm8, hf8, he8⟩ := rx8 hR ht (v := cnt σ t) (by omega)
            have hl6 := (hkv (cnt σ t) (by omega)).1.2
            refine hx_Vi (rest := []) S X (c_X1_append l G L f (ad 4 t 0 0) (ad 5 t 0 0) (ad 6 t 0 0) (ad 7 t (cnt σ t) 0) (ad 8 t (cnt σ t) 0) (cnt σ t - 1) (stp σ t (cnt σ t)) (nI (t)) (σ 1 (162 * t + 1)) ((3 : Int32)) (field) (factor) gf gc gs hm4 hf4 hm5 hf5 hm6 hf6 hm7 hf7 hm8 hf8 (by omega) (by rw [show cnt σ t - 1 + 1 = cnt σ t by omega]; exact he6 _ (by omega)) hl6 ⟨hh.1, Or.inr (Or.inr (Or.inr (Or.inl ⟨rfl, Int32.not_lt.mp c44, c50⟩)))⟩) gX6_scaleField_X1_append rfl (n := 3) (by decide +kernel) rfl ⟨(Nat.le_of_ble_eq_true rfl), (Nat.le_of_ble_eq_true rfl)⟩ (xp_recv (ci := 1) X rfl hm4 hf4) hl.1 rfl (Nat.le_of_ble_eq_true rfl) dX6_scaleField_61 ⟨(Nat.le_of_ble_eq_true rfl), (Nat.le_of_ble_eq_true rfl)⟩ (fun r wd1 H locs hp X => ?_)
            have hct2 : cN (nI t) = t := hct
            have hM : M_scaleField σ (nI t) field factor = M_append σ t 3 field factor (sset σ t) := by rw [M_scaleField, wif_t hws1, hct2, wif_t hh, wif_t ⟨Int32.not_lt.mp c44, c50⟩]
            have hfin := ap_post hI hR ht hk3 he5 he8 (r := r) (K := 3) (A := field) (B := factor) (F := sset σ t) chS_3 hp
            rw [← hM] at hfin
            exact hx_iret S X hr hlk (Nat.le_of_ble_eq_true rfl) (Nat.le_of_ble_eq_true rfl) hfin dX6_scaleField_64
          · skip
            have hbad : ¬ (-100000 ≤ factor ∧ factor ≤ 100000) := fun q => c50 q.2
            refine lv_ldc (v := -2000007) hx hb hown (hts (Cond.constant RX6 28 (-2000007)) (by decide +kernel)) dX6_scaleField_53 ?_
            exact hx_iret S X hr hlk (Nat.le_of_ble_eq_true rfl) (Nat.le_of_ble_eq_true rfl) ⟨by simp [M_scaleField, wif_t, wif_f, hC', hct, c20, hws1, hh, c44, c50, hbad], by simp [M_scaleField, wif_t, wif_f, hC', hct, c20, hws1, hh, c44, c50, hbad]; exact ⟨L, f, ad, rfl, hR, rfl⟩⟩ dX6_scaleField_55
      · skip
        refine hx_ei (hr32.2 hh) ?_
        refine lv_if_ne (tgt := 41) hx hb dX6_scaleField_35 (by decide) (fun c9 => absurd (by decide) c9) (fun _ => ?_)
        refine lv_ldc (v := -2000005) hx hb hown (hts (Cond.constant RX6 81 (-2000005)) (by decide +kernel)) dX6_scaleField_38 ?_
        exact hx_iret S X hr hlk (Nat.le_of_ble_eq_true rfl) (Nat.le_of_ble_eq_true rfl) ⟨by simp [M_scaleField, wif_t, wif_f, hC', hct, c20, hws1, hh], by simp [M_scaleField, wif_t, wif_f, hC', hct, c20, hws1, hh]; exact ⟨L, f, ad, rfl, hR, rfl⟩⟩ dX6_scaleField_40
    · skip
      have hws0 : ws σ (nI t) = -2000008 := by rw [ws, wif_t hC', show cN (nI t) = t from hct, wif_t c20]
      refine lv_ldc (v := -2000008) hx hb hown (hts (Cond.constant RX6 59 (-2000008)) (by decide +kernel)) dX6_scaleField_23 ?_
      exact hx_iret S X hr hlk (Nat.le_of_ble_eq_true rfl) (Nat.le_of_ble_eq_true rfl) ⟨by simp [M_scaleField, wif_t, wif_f, hC', hct, c20, hws0], by simp [M_scaleField, wif_t, wif_f, hC', hct, c20, hws0]; exact ⟨L, f, ad, rfl, hR, rfl⟩⟩ dX6_scaleField_25
  · skip
    refine hx_eq (show r = none from hs2 hC) ?_
    have hws2 : ws σ type = -2000001 := by rw [ws, wif_f hC]
    refine lv_astoreN (lv' := [(4, .null), (0, .ref (ad 0 0 0 0)), (1, .int (type)), (2, .int (field)), (3, .int (factor))]) hx hb dX6_scaleField_5 hl (by decide) rfl (fun ls hl => ?_)
    refine lv_aloadN hx hb dX6_scaleField_7 (lv_at hl 0 rfl) ?_
    refine lv_ifnonnullN hx hb dX6_scaleField_9 ?_
    refine lv_ldc (v := -2000001) hx hb hown (hts (Cond.constant RX6 41 (-2000001)) (by decide +kernel)) dX6_scaleField_12 ?_
    exact hx_iret S X hr hlk (Nat.le_of_ble_eq_true rfl) (Nat.le_of_ble_eq_true rfl) ⟨by simp [M_scaleField, wif_t, wif_f, hC, hws2], by simp [M_scaleField, wif_t, wif_f, hC, hws2]; exact ⟨L, f, ad, rfl, hR, rfl⟩⟩ dX6_scaleField_14

set_option maxRecDepth 100000 in
set_option maxHeartbeats 4000000 in
theorem c_X6_mergeField (l : Launch) (G : hG) (L : List Nat) (f : Nat → va_E) (ad : xAd) (σ : Sg) (type fr into : Int32) (hI : Inv σ) (hR : RX G L f ad σ)  : hMi l G yX6_mergeField wsX6_mergeField ({ frames := 3, cells := 1, slots := 3, locals := 67 } : Room) (va_pl L f) [.ref (ad 0 0 0 0), .int (type), .int (fr), .int (into)] (fun r w => r = (M_mergeField σ type fr into).1 ∧ XPo G (ad 0 0 0 0) (M_mergeField σ type fr into).2 w) := by
  refine hMi.of (cc := cX6_mergeField) (maxL := 5) (some .int) RX6 rfl (by decide +kernel) rfl (Nat.le_of_ble_eq_true rfl) ?_
  intro p e s m args below meth c S hr hlk X ls hl
  have hx := S.1
  have hb := S.2.1
  have hown := S.2.2.2.1
  have hts := S.2.2.2.2
  have hl : lv_has ls 5 [(0, .ref (ad 0 0 0 0)), (1, .int (type)), (2, .int (fr)), (3, .int (into))] := hl
  have hin1 : ∀ w ∈ wsX10, w ∈ wsX6_mergeField := by decide +kernel
  have hin2 : ∀ w ∈ wsX20, w ∈ wsX6_mergeField := by decide +kernel
  have hin4 : ∀ w ∈ wsX40, w ∈ wsX6_mergeField := by decide +kernel
  have hin6 : ∀ w ∈ wsX60, w ∈ wsX6_mergeField := by decide +kernel
  have hC6 : nC σ ≤ 6 := hI.1.2
  have hO24 : nO σ ≤ 24 := hI.2.1.2
  obtain ⟨m0, f0⟩ := rx0 hR
  obtain ⟨g1, m1, f1, e1⟩ := rx1 hR
  obtain ⟨g2, m2, f2, e2⟩ := rx2 hR
  obtain ⟨g3, m3, f3, e3⟩ := rx3 hR
  refine lv_aload_n hx hb dX6_mergeField_0 rfl (lv_at hl 0 rfl) ?_
  refine lv_iload_n hx hb dX6_mergeField_1 rfl (lv_at hl 1 rfl) ?_
  refine hx_Vq (rest := []) S X (c_X6_historyOf l G L f ad σ (type) hI hR) gX6_mergeField_X6_historyOf rfl (n := 1) (by decide +kernel) rfl ⟨(Nat.le_of_ble_eq_true rfl), (Nat.le_of_ble_eq_true rfl)⟩ (xp_recv (ci := 6) X rfl m0 f0) hl.1 rfl (Nat.le_of_ble_eq_true rfl) dX6_mergeField_2 ⟨(Nat.le_of_ble_eq_true rfl), (Nat.le_of_ble_eq_true rfl)⟩ (fun r wd1 H locs hp X => ?_)
  obtain ⟨hr2, hs2, rfl⟩ := hp
  by_cases hC : isC σ (type)
  · skip
    have hC' := hC
    obtain ⟨t, ht, rfl⟩ := hC
    have hct : (nI t).toNatClampNeg = t := nI_clamp (by omega)
    obtain ⟨⟨hk0, hk1, hk2⟩, hks, hkv⟩ := hI.2.2.1 t ht
    obtain ⟨hm4, hf4⟩ := rx4 hR ht
    obtain ⟨gf, hm5, hf5, he5⟩ := rx5 hR ht
    obtain ⟨gc, hm6, hf6, he6⟩ := rx6 hR ht
    refine hx_eq (show r = some (ad 4 t 0 0) from hr2 t ht rfl) ?_
    refine lv_astore (lv' := [(4, .ref (ad 4 t 0 0)), (0, .ref (ad 0 0 0 0)), (1, .int (nI (t))), (2, .int (fr)), (3, .int (into))]) hx hb dX6_mergeField_5 hl (by decide) rfl (fun ls hl => ?_)
    refine lv_aload hx hb dX6_mergeField_7 (lv_at hl 0 rfl) ?_
    refine lv_ifnonnull (tgt := 15) hx hb dX6_mergeField_9 (by decide) ?_
    refine lv_aload hx hb dX6_mergeField_15 (lv_at hl 0 rfl) ?_
    refine xp_getN (host := RX6) S X (ci := 1) hm4 hf4 rfl hin1 4 (by decide) (by decide +kernel) rfl dX6_mergeField_17 ?_
    refine lv_if_ne (tgt := 26) hx hb dX6_mergeField_20 (by decide) (fun c20 => ?_) (fun c20 => ?_)
    · skip
      have hk3 : cnt σ t ≤ 7 := hks.elim (fun q => absurd q c20) (fun q => q.2)
      have hws1 : ws σ (nI t) = 0 := by rw [ws, wif_t hC', show cN (nI t) = t from hct, wif_f c20]
      refine lv_aload hx hb dX6_mergeField_26 (lv_at hl 0 rfl) ?_
      refine hx_Vi (rest := []) S X (c_X1_stagedSet l G L f (ad 4 t 0 0) (ad 5 t 0 0) (ad 6 t 0 0) (cnt σ t - 1) (nI (t)) (σ 1 (162 * t + 1)) (gf) hm4 hf4 hm5 hf5 (by omega)) gX6_mergeField_X1_stagedSet rfl (n := 0) (by decide +kernel) rfl ⟨(Nat.le_of_ble_eq_true rfl), (Nat.le_of_ble_eq_true rfl)⟩ (xp_recv (ci := 1) X rfl hm4 hf4) hl.1 rfl (Nat.le_of_ble_eq_true rfl) dX6_mergeField_28 ⟨(Nat.le_of_ble_eq_true rfl), (Nat.le_of_ble_eq_true rfl)⟩ (fun r wd1 H locs hp X => ?_)
      obtain ⟨rfl, rfl⟩ := hp
      refine hx_ei (show _ = sset σ t from by rw [show cnt σ t - 1 + 1 = cnt σ t by omega]; exact he5 _ (by omega)) ?_
      refine lv_iload_n hx hb dX6_mergeField_31 rfl (lv_at hl 3 rfl) ?_
      refine hx_Si (rest := []) S X (c_X6_contains l G _ (sset σ t) (fr)) gX6_mergeField_X6_contains rfl (n := 2) (by decide +kernel) rfl ⟨(Nat.le_of_ble_eq_true rfl), (Nat.le_of_ble_eq_true rfl)⟩ hl.1 rfl (Nat.le_of_ble_eq_true rfl) dX6_mergeField_32 ⟨(Nat.le_of_ble_eq_true rfl), (Nat.le_of_ble_eq_true rfl)⟩ (fun r wd1 H locs hp X => ?_)
      obtain ⟨hr32, rfl⟩ := hp
      by_cases hh : hasF (sset σ t) (fr)
      · skip
        refine hx_ei (hr32.1 hh) ?_
        refine lv_if_eq (tgt := 50) hx hb dX6_mergeField_35 (by decide) (fun c9 => absurd c9 (by decide)) (fun _ => ?_)
        refine lv_aload hx hb dX6_mergeField_38 (lv_at hl 0 rfl) ?_
        refine hx_Vi (rest := []) S X (c_X1_stagedSet l G L f (ad 4 t 0 0) (ad 5 t 0 0) (ad 6 t 0 0) (cnt σ t - 1) (nI (t)) (σ 1 (162 * t + 1)) (gf) hm4 hf4 hm5 hf5 (by omega)) gX6_mergeField_X1_stagedSet rfl (n := 0) (by decide +kernel) rfl ⟨(Nat.le_of_ble_eq_true rfl), (Nat.le_of_ble_eq_true rfl)⟩ (xp_recv (ci := 1) X rfl hm4 hf4) hl.1 rfl (Nat.le_of_ble_eq_true rfl) dX6_mergeField_40 ⟨(Nat.le_of_ble_eq_true rfl), (Nat.le_of_ble_eq_true rfl)⟩ (fun r wd1 H locs hp X => ?_)
        obtain ⟨rfl, rfl⟩ := hp
        refine hx_ei (show _ = sset σ t from by rw [show cnt σ t - 1 + 1 = cnt σ t by omega]; exact he5 _ (by omega)) ?_
        refine lv_iload_n hx hb dX6_mergeField_43 rfl (lv_at hl 4 rfl) ?_
        refine hx_Si (rest := []) S X (c_X6_contains l G _ (sset σ t) (into)) gX6_mergeField_X6_contains rfl (n := 2) (by decide +kernel) rfl ⟨(Nat.le_of_ble_eq_true rfl), (Nat.le_of_ble_eq_true rfl)⟩ hl.1 rfl (Nat.le_of_ble_eq_true rfl) dX6_mergeField_44 ⟨(Nat.le_of_ble_eq_true rfl), (Nat.le_of_ble_eq_true rfl)⟩ (fun r wd1 H locs hp X => ?_)
        obtain ⟨hr44, rfl⟩ := hp
        by_cases hh2 : hasF (sset σ t) (into)
        · skip
          refine hx_ei (hr44.1 hh2) ?_
          refine lv_if_ne (tgt := 53) hx hb dX6_mergeField_47 (by decide) (fun _ => ?_) (fun c9 => absurd c9 (by decide))
          refine lv_iload_n hx hb dX6_mergeField_53 rfl (lv_at hl 3 rfl) ?_
          refine lv_iload_n hx hb dX6_mergeField_54 rfl (lv_at hl 4 rfl) ?_
          refine lv_icmp_ne (tgt := 61) hx hb dX6_mergeField_55 (by decide) (fun c55 => ?_) (fun c55 => ?_)
          · skip
            refine lv_aload hx hb dX6_mergeField_61 (lv_at hl 0 rfl) ?_
            refine lv_iconst (v := 4) hx hb dX6_mergeField_63 (by decide) ?_
            refine lv_iload_n hx hb dX6_mergeField_64 rfl (lv_at hl 3 rfl) ?_
            refine lv_iload_n hx hb dX6_mergeField_65 rfl (lv_at hl 4 rfl) ?_
            obtain ⟨hm7, hf7⟩ := rx7 hR ht (v := cnt σ t) (by omega)
            obtain ⟨gs, hm8, hf8, he8⟩ := rx8 hR ht (v := cnt σ t) (by omega)
            have hl6 := (hkv (cnt σ t) (by omega)).1.2
            refine hx_Vi (rest := []) S X (c_X1_append l G L f (ad 4 t 0 0) (ad 5 t 0 0) (ad 6 t 0 0) (ad 7 t (cnt σ t) 0) (ad 8 t (cnt σ t) 0) (cnt σ t - 1) (stp σ t (cnt σ t)) (nI (t)) (σ 1 (162 * t + 1)) ((4 : Int32)) (fr) (into) gf gc gs hm4 hf4 hm5 hf5 hm6 hf6 hm7 hf7 hm8 hf8 (by omega) (by rw [show cnt σ t - 1 + 1 = cnt σ t by omega]; exact he6 _ (by omega)) hl6 ⟨hh.1, Or.inr (Or.inr (Or.inr (Or.inr ⟨rfl, hh2.1⟩)))⟩) gX6_mergeField_X1_append rfl (n := 3) (by decide +kernel) rfl ⟨(Nat.le_of_ble_eq_true rfl), (Nat.le_of_ble_eq_true rfl)⟩ (xp_recv (ci := 1) X rfl hm4 hf4) hl.1 rfl (Nat.le_of_ble_eq_true rfl) dX6_mergeField_66 ⟨(Nat.le_of_ble_eq_true rfl), (Nat.le_of_ble_eq_true rfl)⟩ (fun r wd1 H locs hp X => ?_)
            have hct2 : cN (nI t) = t := hct
            have hM : M_mergeField σ (nI t) fr into = M_append σ t 4 fr into (sset σ t &&& (((1 : Int32) <<< (fr &&& 31)) ^^^ (-1 : Int32))) := by rw [M_mergeField, wif_t hws1, hct2, wif_t ⟨hh, hh2⟩, wif_f c55]
            have hfin := ap_post hI hR ht hk3 he5 he8 (r := r) (K := 4) (A := fr) (B := into) (F := sset σ t &&& (((1 : Int32) <<< (fr &&& 31)) ^^^ (-1 : Int32))) chS_4 hp
            rw [← hM] at hfin
            exact hx_iret S X hr hlk (Nat.le_of_ble_eq_true rfl) (Nat.le_of_ble_eq_true rfl) hfin dX6_mergeField_69
          · skip
            refine lv_ldc (v := -2000007) hx hb hown (hts (Cond.constant RX6 28 (-2000007)) (by decide +kernel)) dX6_mergeField_58 ?_
            exact hx_iret S X hr hlk (Nat.le_of_ble_eq_true rfl) (Nat.le_of_ble_eq_true rfl) ⟨by simp [M_mergeField, wif_t, wif_f, hC', hct, c20, hws1, hh, hh2, c55], by simp [M_mergeField, wif_t, wif_f, hC', hct, c20, hws1, hh, hh2, c55]; exact ⟨L, f, ad, rfl, hR, rfl⟩⟩ dX6_mergeField_60
        · skip
          refine hx_ei (hr44.2 hh2) ?_
          refine lv_if_ne (tgt := 53) hx hb dX6_mergeField_47 (by decide) (fun c9 => absurd (by decide) c9) (fun _ => ?_)
          refine lv_ldc (v := -2000005) hx hb hown (hts (Cond.constant RX6 81 (-2000005)) (by decide +kernel)) dX6_mergeField_50 ?_
          exact hx_iret S X hr hlk (Nat.le_of_ble_eq_true rfl) (Nat.le_of_ble_eq_true rfl) ⟨by simp [M_mergeField, wif_t, wif_f, hC', hct, c20, hws1, hh, hh2], by simp [M_mergeField, wif_t, wif_f, hC', hct, c20, hws1, hh, hh2]; exact ⟨L, f, ad, rfl, hR, rfl⟩⟩ dX6_mergeField_52
      · skip
        refine hx_ei (hr32.2 hh) ?_
        refine lv_if_eq (tgt := 50) hx hb dX6_mergeField_35 (by decide) (fun _ => ?_) (fun c9 => absurd (by decide) c9)
        refine lv_ldc (v := -2000005) hx hb hown (hts (Cond.constant RX6 81 (-2000005)) (by decide +kernel)) dX6_mergeField_50 ?_
        exact hx_iret S X hr hlk (Nat.le_of_ble_eq_true rfl) (Nat.le_of_ble_eq_true rfl) ⟨by simp [M_mergeField, wif_t, wif_f, hC', hct, c20, hws1, hh], by simp [M_mergeField, wif_t, wif_f, hC', hct, c20, hws1, hh]; exact ⟨L, f, ad, rfl, hR, rfl⟩⟩ dX6_mergeField_52
    · skip
      have hws0 : ws σ (nI t) = -2000008 := by rw [ws, wif_t hC', show cN (nI t) = t from hct, wif_t c20]
      refine lv_ldc (v := -2000008) hx hb hown (hts (Cond.constant RX6 59 (-2000008)) (by decide +kernel)) dX6_mergeField_23 ?_
      exact hx_iret S X hr hlk (Nat.le_of_ble_eq_true rfl) (Nat.le_of_ble_eq_true rfl) ⟨by simp [M_mergeField, wif_t, wif_f, hC', hct, c20, hws0], by simp [M_mergeField, wif_t, wif_f, hC', hct, c20, hws0]; exact ⟨L, f, ad, rfl, hR, rfl⟩⟩ dX6_mergeField_25
  · skip
    refine hx_eq (show r = none from hs2 hC) ?_
    have hws2 : ws σ type = -2000001 := by rw [ws, wif_f hC]
    refine lv_astoreN (lv' := [(4, .null), (0, .ref (ad 0 0 0 0)), (1, .int (type)), (2, .int (fr)), (3, .int (into))]) hx hb dX6_mergeField_5 hl (by decide) rfl (fun ls hl => ?_)
    refine lv_aloadN hx hb dX6_mergeField_7 (lv_at hl 0 rfl) ?_
    refine lv_ifnonnullN hx hb dX6_mergeField_9 ?_
    refine lv_ldc (v := -2000001) hx hb hown (hts (Cond.constant RX6 41 (-2000001)) (by decide +kernel)) dX6_mergeField_12 ?_
    exact hx_iret S X hr hlk (Nat.le_of_ble_eq_true rfl) (Nat.le_of_ble_eq_true rfl) ⟨by simp [M_mergeField, wif_t, wif_f, hC, hws2], by simp [M_mergeField, wif_t, wif_f, hC, hws2]; exact ⟨L, f, ad, rfl, hR, rfl⟩⟩ dX6_mergeField_14

set_option maxRecDepth 100000 in
set_option maxHeartbeats 4000000 in
theorem c_X6_stage (l : Launch) (G : hG) (L : List Nat) (f : Nat → va_E) (ad : xAd) (σ : Sg) (type : Int32) (hI : Inv σ) (hR : RX G L f ad σ)  : hMi l G yX6_stage wsX6_stage ({ frames := 2, cells := 0, slots := 0, locals := 40 } : Room) (va_pl L f) [.ref (ad 0 0 0 0), .int (type)] (fun r w => r = (M_stage σ type).1 ∧ XPo G (ad 0 0 0 0) (M_stage σ type).2 w) := by
  refine hMi.of (cc := cX6_stage) (maxL := 3) (some .int) RX6 rfl (by decide +kernel) rfl (Nat.le_of_ble_eq_true rfl) ?_
  intro p e s m args below meth c S hr hlk X ls hl
  have hx := S.1
  have hb := S.2.1
  have hown := S.2.2.2.1
  have hts := S.2.2.2.2
  have hl : lv_has ls 3 [(0, .ref (ad 0 0 0 0)), (1, .int (type))] := hl
  have hin1 : ∀ w ∈ wsX10, w ∈ wsX6_stage := by decide +kernel
  have hin2 : ∀ w ∈ wsX20, w ∈ wsX6_stage := by decide +kernel
  have hin6 : ∀ w ∈ wsX60, w ∈ wsX6_stage := by decide +kernel
  have hC6 : nC σ ≤ 6 := hI.1.2
  have hO24 : nO σ ≤ 24 := hI.2.1.2
  obtain ⟨m0, f0⟩ := rx0 hR
  obtain ⟨g1, m1, f1, e1⟩ := rx1 hR
  obtain ⟨g2, m2, f2, e2⟩ := rx2 hR
  obtain ⟨g3, m3, f3, e3⟩ := rx3 hR
  refine lv_aload_n hx hb dX6_stage_0 rfl (lv_at hl 0 rfl) ?_
  refine lv_iload_n hx hb dX6_stage_1 rfl (lv_at hl 1 rfl) ?_
  refine hx_Vq (rest := []) S X (c_X6_historyOf l G L f ad σ (type) hI hR) gX6_stage_X6_historyOf rfl (n := 1) (by decide +kernel) rfl ⟨(Nat.le_of_ble_eq_true rfl), (Nat.le_of_ble_eq_true rfl)⟩ (xp_recv (ci := 6) X rfl m0 f0) hl.1 rfl (Nat.le_of_ble_eq_true rfl) dX6_stage_2 ⟨(Nat.le_of_ble_eq_true rfl), (Nat.le_of_ble_eq_true rfl)⟩ (fun r wd1 H locs hp X => ?_)
  obtain ⟨hr2, hs2, rfl⟩ := hp
  by_cases hC : isC σ (type)
  · skip
    have hC' := hC
    obtain ⟨t, ht, rfl⟩ := hC
    have hct : (nI t).toNatClampNeg = t := nI_clamp (by omega)
    obtain ⟨⟨hk0, hk1, hk2⟩, hks, hkv⟩ := hI.2.2.1 t ht
    obtain ⟨hm4, hf4⟩ := rx4 hR ht
    obtain ⟨gf, hm5, hf5, he5⟩ := rx5 hR ht
    obtain ⟨gc, hm6, hf6, he6⟩ := rx6 hR ht
    refine hx_eq (show r = some (ad 4 t 0 0) from hr2 t ht rfl) ?_
    refine lv_astore_n (lv' := [(2, .ref (ad 4 t 0 0)), (0, .ref (ad 0 0 0 0)), (1, .int (nI (t)))]) hx hb dX6_stage_5 rfl hl (by decide) rfl (fun ls hl => ?_)
    refine lv_aload_n hx hb dX6_stage_6 rfl (lv_at hl 0 rfl) ?_
    refine lv_ifnonnull (tgt := 13) hx hb dX6_stage_7 (by decide) ?_
    refine lv_aload_n hx hb dX6_stage_13 rfl (lv_at hl 0 rfl) ?_
    refine xp_getN (host := RX6) S X (ci := 1) hm4 hf4 rfl hin1 4 (by decide) (by decide +kernel) rfl dX6_stage_14 ?_
    refine lv_if_eq (tgt := 23) hx hb dX6_stage_17 (by decide) (fun c17 => ?_) (fun c17 => ?_)
    · skip
      have hn1 : ¬ σ 1 (162 * t + 1) = 1 := by rw [c17]; decide
      have hct2 : cN (nI t) = t := hct
      refine lv_aload_n hx hb dX6_stage_23 rfl (lv_at hl 0 rfl) ?_
      by_cases h8 : cnt σ t = 8
      · skip
        refine hx_Vi (rest := []) S X (c_X1_beginFull l G L f (ad 4 t 0 0) (ad 5 t 0 0) (ad 6 t 0 0) (nI (t)) (σ 1 (162 * t + 1)) hm4 (by rw [hf4, h8]) ) gX6_stage_X1_beginStaged rfl (n := 0) (by decide +kernel) rfl ⟨(Nat.le_of_ble_eq_true rfl), (Nat.le_of_ble_eq_true rfl)⟩ (xp_recv (ci := 1) X rfl hm4 hf4) hl.1 rfl (Nat.le_of_ble_eq_true rfl) dX6_stage_24 ⟨(Nat.le_of_ble_eq_true rfl), (Nat.le_of_ble_eq_true rfl)⟩ (fun r wd1 H locs hp X => ?_)
        obtain ⟨rfl, rfl⟩ := hp
        exact hx_iret S X hr hlk (Nat.le_of_ble_eq_true rfl) (Nat.le_of_ble_eq_true rfl) ⟨by rw [M_stage, wif_t hC', hct2, wif_f hn1, wif_t h8], by rw [M_stage, wif_t hC', hct2, wif_f hn1, wif_t h8]; exact ⟨_, _, _, rfl, hR, rfl⟩⟩ dX6_stage_27
      · skip
        have hcc : cnt σ t - 1 + 1 = cnt σ t := by omega
        obtain ⟨hm7, hf7⟩ := rx7 hR ht (v := cnt σ t) (by omega)
        obtain ⟨gs, hm8, hf8, he8⟩ := rx8 hR ht (v := cnt σ t) (by omega)
        have hl6 := (hkv (cnt σ t) (by omega)).1.2
        refine hx_Vi (rest := []) S X (c_X1_beginStaged l G L f (ad 4 t 0 0) (ad 5 t 0 0) (ad 6 t 0 0) (ad 7 t (cnt σ t - 1 + 1) 0) (ad 8 t (cnt σ t - 1 + 1) 0) (cnt σ t - 1) (stp σ t (cnt σ t)) (nI (t)) (σ 1 (162 * t + 1)) gf gc hm4 hf4 hm5 hf5 hm6 hf6 (by rw [hcc]; exact hm7) (by rw [hcc]; exact hf7) (by omega) (by rw [hcc]; exact he6 _ (by omega))) gX6_stage_X1_beginStaged rfl (n := 0) (by decide +kernel) rfl ⟨(Nat.le_of_ble_eq_true rfl), (Nat.le_of_ble_eq_true rfl)⟩ (xp_recv (ci := 1) X rfl hm4 hf4) hl.1 rfl (Nat.le_of_ble_eq_true rfl) dX6_stage_24 ⟨(Nat.le_of_ble_eq_true rfl), (Nat.le_of_ble_eq_true rfl)⟩ (fun r wd1 H locs hp X => ?_)
        obtain ⟨rfl, rfl⟩ := hp
        exact hx_iret S X hr hlk (Nat.le_of_ble_eq_true rfl) (Nat.le_of_ble_eq_true rfl) ⟨by rw [M_stage, wif_t hC', hct2, wif_f hn1, wif_f h8, hcc], by rw [M_stage, wif_t hC', hct2, wif_f hn1, wif_f h8]; exact ⟨_, _, _, rfl, rx_stage hI hR ht (by omega) he5, rfl⟩⟩ dX6_stage_27
    · skip
      have h1s : σ 1 (162 * t + 1) = 1 := hks.elim (fun q => absurd q c17) (fun q => q.1)
      refine lv_ldc (v := -2000009) hx hb hown (hts (Cond.constant RX6 54 (-2000009)) (by decide +kernel)) dX6_stage_20 ?_
      exact hx_iret S X hr hlk (Nat.le_of_ble_eq_true rfl) (Nat.le_of_ble_eq_true rfl) ⟨by simp [M_stage, wif_t, wif_f, hC', hct, c17, h1s], by simp [M_stage, wif_t, wif_f, hC', hct, c17, h1s]; exact ⟨L, f, ad, rfl, hR, rfl⟩⟩ dX6_stage_22
  · skip
    refine hx_eq (show r = none from hs2 hC) ?_
    refine lv_astore_nN (lv' := [(2, .null), (0, .ref (ad 0 0 0 0)), (1, .int (type))]) hx hb dX6_stage_5 rfl hl (by decide) rfl (fun ls hl => ?_)
    refine lv_aload_nN hx hb dX6_stage_6 rfl (lv_at hl 0 rfl) ?_
    refine lv_ifnonnullN hx hb dX6_stage_7 ?_
    refine lv_ldc (v := -2000001) hx hb hown (hts (Cond.constant RX6 41 (-2000001)) (by decide +kernel)) dX6_stage_10 ?_
    exact hx_iret S X hr hlk (Nat.le_of_ble_eq_true rfl) (Nat.le_of_ble_eq_true rfl) ⟨by simp [M_stage, wif_t, wif_f, hC], by simp [M_stage, wif_t, wif_f, hC]; exact ⟨L, f, ad, rfl, hR, rfl⟩⟩ dX6_stage_12
