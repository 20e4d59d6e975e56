/-! the conversion of all objects of a class -/
def duP (s : Sg) (t v o : Nat) : Prop := ¬ s 6 o = 0 ∧ s 7 o = nI t ∧ s 8 o < nI v ∧ ¬ ∃ j, j < 32 ∧ helP s (nI o) (nI v) j
noncomputable def caL (σ : Sg) (t v : Nat) : Nat → Nat × Sg
  | 0 => (0, σ)
  | n + 1 => wif (duP (caL σ t v n).2 t v n) (if (M_convert (caL σ t v n).2 n v).1 = true then (caL σ t v n).1 + 1 else (caL σ t v n).1, (M_convert (caL σ t v n).2 n v).2) (caL σ t v n)
noncomputable def M_convertAll (σ : Sg) (type : Int32) : Int32 × Sg := wif (isC σ type) (nI (caL σ (cN type) (cnt σ (cN type) - 1) (nO σ)).1, (caL σ (cN type) (cnt σ (cN type) - 1) (nO σ)).2) (-2000001, σ)
theorem ca_no {σ : Sg} {t v n : Nat} (h : ¬ duP (caL σ t v n).2 t v n) : (caL σ t v (n + 1)).1 = (caL σ t v n).1 ∧ (caL σ t v (n + 1)).2 = (caL σ t v n).2 := by rw [caL, wif_f h]; exact ⟨rfl, rfl⟩
theorem ca_yes {σ : Sg} {t v n : Nat} (h : duP (caL σ t v n).2 t v n) (hc : (M_convert (caL σ t v n).2 n v).1 = true) : (caL σ t v (n + 1)).1 = (caL σ t v n).1 + 1 ∧ (caL σ t v (n + 1)).2 = (M_convert (caL σ t v n).2 n v).2 := by rw [caL, wif_t h]; exact ⟨if_pos hc, rfl⟩
theorem ca_fail {σ : Sg} {t v n : Nat} (h : duP (caL σ t v n).2 t v n) (hc : ¬ (M_convert (caL σ t v n).2 n v).1 = true) : (caL σ t v (n + 1)).1 = (caL σ t v n).1 ∧ (caL σ t v (n + 1)).2 = (M_convert (caL σ t v n).2 n v).2 := by rw [caL, wif_t h]; exact ⟨if_neg hc, rfl⟩
theorem du_at {s : Sg} (hI : Inv s) {t v n : Nat} (ht : t < nC s) (hn : n < nO s) (h1 : ¬ s 6 n = 0) (h2 : s 7 n = nI t) (h3 : s 8 n < nI v) (hv : v < 8) : s 6 n = 1 ∧ oC s n = t ∧ oV s n < v := by
  have hC6 := hI.1.2
  have hx := (hI.2.2.2.2.2 n hn).1.resolve_left h1
  obtain ⟨⟨o1, o2⟩, ⟨o3, o4⟩, -⟩ := (hI.2.2.2.2.2 n hn).2 hx
  have hk2 := (hI.2.2.1 _ o2).1
  rw [o1] at h2
  rw [o3] at h3
  exact ⟨hx, (nI_eq (by omega) (by omega)).mp h2, (nI_ltI (by omega) (by omega)).mp h3⟩
theorem ca_all {σ : Sg} (hI : Iv σ) {t : Nat} (ht : t < nC σ) : ∀ n, n ≤ nO σ → Iv (caL σ t (cnt σ t - 1) n).2 ∧ (∀ k, k ≠ 8 → k ≠ 10 → (caL σ t (cnt σ t - 1) n).2 k = σ k) ∧ (caL σ t (cnt σ t - 1) n).1 ≤ n := by
  have hk8 := (hI.1.2.2.1 t ht).1
  intro n
  induction n with
  | zero => intro _; exact ⟨hI, fun _ _ _ => rfl, Nat.le_refl _⟩
  | succ n ih =>
    intro hn
    obtain ⟨i1, i2, i3⟩ := ih (by omega)
    by_cases c : duP (caL σ t (cnt σ t - 1) n).2 t (cnt σ t - 1) n
    · have hts : t < nC (caL σ t (cnt σ t - 1) n).2 := by unfold nC at ht ⊢; rw [i2 0 (by decide) (by decide)]; exact ht
      have hns : n < nO (caL σ t (cnt σ t - 1) n).2 := by unfold nO at hn ⊢; rw [i2 0 (by decide) (by decide)]; omega
      have eK : cnt (caL σ t (cnt σ t - 1) n).2 t = cnt σ t := congrArg cN (congrFun (i2 1 (by decide) (by decide)) _)
      obtain ⟨d1, d2, d3⟩ := du_at i1.1 hts hns c.1 c.2.1 c.2.2.1 (by omega)
      have hi := iv_convert i1 hns d1 (tg := cnt σ t - 1) (by omega) (by rw [d2, eK]; omega)
      have hk : ∀ k, k ≠ 8 → k ≠ 10 → (M_convert (caL σ t (cnt σ t - 1) n).2 n (cnt σ t - 1)).2 k = σ k := fun k a b => by rw [← i2 k a b]; funext j; exact M_convert_k a b j
      by_cases e : (M_convert (caL σ t (cnt σ t - 1) n).2 n (cnt σ t - 1)).1 = true
      · obtain ⟨z1, z2⟩ := ca_yes c e
        rw [z1, z2]
        exact ⟨hi, hk, by omega⟩
      · obtain ⟨z1, z2⟩ := ca_fail c e
        rw [z1, z2]
        exact ⟨hi, hk, by omega⟩
    · obtain ⟨z1, z2⟩ := ca_no c
      rw [z1, z2]
      exact ⟨i1, i2, by omega⟩
theorem iv_convertAll {σ : Sg} (hI : Iv σ) (type : Int32) : Iv (M_convertAll σ type).2 := by
  rw [M_convertAll]
  refine iv_wif (fun h => ?_) (fun _ => hI)
  obtain ⟨t, ht, rfl⟩ := h
  have hC6 := hI.1.1.2
  rw [show cN (nI t) = t from nI_clamp (by omega)]
  exact (ca_all hI ht _ (Nat.le_refl _)).1
set_option maxRecDepth 100000 in
set_option maxHeartbeats 4000000 in
theorem c_X7_convertAll (l : Launch) (G : hG) (ad : Nat → Nat) (σ : Sg) (type : Int32) (hI : Inv σ) (hFr : Fr σ) : hMi l G yX7_convertAll wsX7_convertAll ({ frames := 4, cells := 0, slots := 0, locals := 96 } : Room) (mW G ad σ) [.ref (ad 0), .int (type)] (fun r w => r = (M_convertAll σ type).1 ∧ w = mW G ad (M_convertAll σ type).2) := by
  refine hMi.of (cc := cX7_convertAll) (maxL := 6) (some .int) RX7 rfl (by decide +kernel) rfl (Nat.le_of_ble_eq_true rfl) ?_
  intro p e s m args below meth c S hr hlk X ls hl
  have hx := S.1
  have hb := S.2.1
  have hown := S.2.2.2.1
  have hts := S.2.2.2.2
  have hl : lv_has ls 6 [(0, .ref (ad 0)), (1, .int (type))] := hl
  have hin7 : ∀ w ∈ wsX70, w ∈ wsX7_convertAll := by decide +kernel
  have hC6 : nC σ ≤ 6 := hI.1.2
  have hO24 : nO σ ≤ 24 := hI.2.1.2
  refine lv_aload_n hx hb dX7_convertAll_0 rfl (lv_at hl 0 rfl) ?_
  refine lv_iload_n hx hb dX7_convertAll_1 rfl (lv_at hl 1 rfl) ?_
  refine hx_Vi (rest := []) S X (c_X7_isClass l G ad σ (type) hI) gX7_convertAll_X7_isClass rfl (n := 1) (by decide +kernel) rfl ⟨(Nat.le_of_ble_eq_true rfl), (Nat.le_of_ble_eq_true rfl)⟩ (hx_recvL (q0 := 0) (ci := 7) X rfl (mW_0 _ _ _)) hl.1 rfl (Nat.le_of_ble_eq_true rfl) dX7_convertAll_2 ⟨(Nat.le_of_ble_eq_true rfl), (Nat.le_of_ble_eq_true rfl)⟩ (fun r wd1 H locs hp X => ?_)
  obtain ⟨hr2, rfl⟩ := hp
  by_cases h2 : isC σ (type)
  · skip
    refine hx_ei (hr2.1 h2) ?_
    have h2' := h2
    obtain ⟨t, ht, rfl⟩ := h2
    have hct : (nI t).toNatClampNeg = t := nI_clamp (by omega)
    obtain ⟨⟨hk0, hk1, hk2⟩, hks, hkv⟩ := hI.2.2.1 t ht
    refine lv_if_ne (tgt := 11) hx hb dX7_convertAll_5 (by decide) (fun _ => ?_) (fun c9 => absurd c9 (by decide))
    refine lv_aload_n hx hb dX7_convertAll_11 rfl (lv_at hl 0 rfl) ?_
    refine lv_iload_n hx hb dX7_convertAll_12 rfl (lv_at hl 1 rfl) ?_
    refine hx_Vi (rest := []) S X (c_X7_current l G ad σ (t) (by omega)) gX7_convertAll_X7_current rfl (n := 1) (by decide +kernel) rfl ⟨(Nat.le_of_ble_eq_true rfl), (Nat.le_of_ble_eq_true rfl)⟩ (hx_recvL (q0 := 0) (ci := 7) X rfl (mW_0 _ _ _)) hl.1 rfl (Nat.le_of_ble_eq_true rfl) dX7_convertAll_13 ⟨(Nat.le_of_ble_eq_true rfl), (Nat.le_of_ble_eq_true rfl)⟩ (fun r wd1 H locs hp X => ?_)
    obtain ⟨rfl, rfl⟩ := hp
    refine hx_ei (show _ = nI (cnt σ t) - 1 from by rw [show σ 1 (162 * t + 0) = nI (cnt σ t) from hk0]) ?_
    refine hx_ei (show _ = nI (cnt σ t - 1) from nI_pred2 hk1) ?_
    refine lv_istore_n (lv' := [(2, .int (nI (cnt σ t - 1))), (0, .ref (ad 0)), (1, .int (nI (t)))]) hx hb dX7_convertAll_16 rfl hl (by decide) rfl (fun ls hl => ?_)
    refine lv_iconst (v := 0) hx hb dX7_convertAll_17 (by decide) ?_
    refine lv_istore_n (lv' := [(3, .int ((0 : Int32))), (2, .int (nI (cnt σ t - 1))), (0, .ref (ad 0)), (1, .int (nI (t)))]) hx hb dX7_convertAll_18 rfl hl (by decide) rfl (fun ls hl => ?_)
    refine lv_iconst (v := 0) hx hb dX7_convertAll_19 (by decide) ?_
    refine lv_istore (lv' := [(4, .int ((0 : Int32))), (3, .int ((0 : Int32))), (2, .int (nI (cnt σ t - 1))), (0, .ref (ad 0)), (1, .int (nI (t)))]) hx hb dX7_convertAll_20 hl (by decide) rfl (fun ls hl => ?_)
    have loop : ∀ (n i : Nat) (y : Nat), i + n = nO σ → y = (caL σ t (cnt σ t - 1) i).1 → ∀ (H : Heap) (locs : List Loc) (ls : Array Slot), hH G (va_A (mW G ad σ) s.heap.size) s.heap s (mW G ad (caL σ t (cnt σ t - 1) i).2) H locs → lv_has ls 6 [(0, .ref (ad 0)), (1, .int (nI (t))), (2, .int (nI (cnt σ t - 1))), (3, .int (nI (y))), (4, .int (nI (i)))] → W p l e ({ frames := 4, cells := 0, slots := 0, locals := 96 } : Room) s m args below meth c H locs 0 0 (MQ below (va_Qi (fun r w => r = (M_convertAll σ (nI t)).1 ∧ w = mW G ad (M_convertAll σ (nI t)).2) (hB G (va_A (mW G ad σ) s.heap.size)) (va_A (mW G ad σ) s.heap.size)) args s 0 0 (va_A (mW G ad σ) s.heap.size)) (F0 m 22 ls []) := by
      intro n
      induction n with
      | zero =>
        intro i y hi hv H locs ls X hl
        have hin : i = nO σ := by omega
        obtain ⟨hIs, hks, -⟩ := ca_all ⟨hI, hFr⟩ ht i (by omega)
        have e01 : (caL σ t (cnt σ t - 1) i).2 0 1 = nI (nO σ) := by rw [hks 0 (by decide) (by decide)]; exact hI.2.1.1
        refine lv_iload hx hb dX7_convertAll_22 (lv_at hl 4 rfl) ?_
        refine lv_aload_n hx hb dX7_convertAll_24 rfl (lv_at hl 0 rfl) ?_
        refine hx_getL S X (ci := 7) 0 (mW_0 _ _ _) rfl hin7 6 (by decide) (by decide +kernel) rfl dX7_convertAll_25 ?_
        refine hx_ei (show _ = nI (nO σ) from e01) ?_
        refine lv_icmp_ge (tgt := 109) hx hb dX7_convertAll_28 (by decide) (fun _ => ?_) (fun c9 => absurd (nI_le (a := nO σ) (b := i) (by omega) (by omega)) c9)
        refine lv_iload_n hx hb dX7_convertAll_109 rfl (lv_at hl 3 rfl) ?_
        exact hx_iret S X hr hlk (Nat.le_of_ble_eq_true rfl) (Nat.le_of_ble_eq_true rfl) ⟨by rw [hv, hin, M_convertAll, wif_t h2', show cN (nI t) = t from hct], by rw [hin, M_convertAll, wif_t h2', show cN (nI t) = t from hct]⟩ dX7_convertAll_110
      | succ n ih =>
        intro i y hi hv H locs ls X hl
        have hin : i < nO σ := by omega
        obtain ⟨hIs, hks, -⟩ := ca_all ⟨hI, hFr⟩ ht i (by omega)
        have hcn := @ca_no σ t (cnt σ t - 1) i
        have hcy := @ca_yes σ t (cnt σ t - 1) i
        have hcf := @ca_fail σ t (cnt σ t - 1) i
        obtain ⟨sg, hsg⟩ : ∃ sg, sg = (caL σ t (cnt σ t - 1) i).2 := ⟨_, rfl⟩
        rw [← hsg] at X hIs hcn hcy hcf
        simp only [← hsg] at hks
        have e01 : sg 0 1 = nI (nO σ) := by rw [hks 0 (by decide) (by decide)]; exact hI.2.1.1
        have hts : t < nC sg := by unfold nC at ht ⊢; rw [hks 0 (by decide) (by decide)]; exact ht
        have eO : nO sg = nO σ := by unfold nO; rw [hks 0 (by decide) (by decide)]
        have eK : cnt sg t = cnt σ t := by unfold cnt; rw [hks 1 (by decide) (by decide)]
        refine lv_iload hx hb dX7_convertAll_22 (lv_at hl 4 rfl) ?_
        refine lv_aload_n hx hb dX7_convertAll_24 rfl (lv_at hl 0 rfl) ?_
        refine hx_getL S X (ci := 7) 0 (mW_0 _ _ _) rfl hin7 6 (by decide) (by decide +kernel) rfl dX7_convertAll_25 ?_
        refine hx_ei (show _ = nI (nO σ) from e01) ?_
        refine lv_icmp_ge (tgt := 109) hx hb dX7_convertAll_28 (by decide) (fun c9 => absurd c9 (nI_ge (a := i) (b := nO σ) (by omega) (by omega))) (fun _ => ?_)
        refine lv_aload_n hx hb dX7_convertAll_31 rfl (lv_at hl 0 rfl) ?_
        refine hx_getL S X (ci := 7) 0 (mW_0 _ _ _) rfl hin7 7 (by decide) (by decide +kernel) rfl dX7_convertAll_32 ?_
        refine lv_iload hx hb dX7_convertAll_35 (lv_at hl 4 rfl) ?_
        refine mx_zld S X (j := i) (by omega) (x := sg 6 (i)) (rfl) dX7_convertAll_37 ?_
        refine lv_if_eq (tgt := 77) hx hb dX7_convertAll_38 (by decide) (fun c38 => ?_) (fun c38 => ?_)
        · skip
          refine lv_iconst (v := 0) hx hb dX7_convertAll_77 (by decide) ?_
          refine lv_istore (lv' := [(5, .int ((0 : Int32))), (0, .ref (ad 0)), (1, .int (nI (t))), (2, .int (nI (cnt σ t - 1))), (3, .int (nI (y))), (4, .int (nI (i)))]) hx hb dX7_convertAll_78 hl (by decide) rfl (fun ls hl => ?_)
          refine lv_iload_n hx hb dX7_convertAll_80 rfl (lv_at hl 4 rfl) ?_
          refine lv_iload hx hb dX7_convertAll_81 (lv_at hl 0 rfl) ?_
          refine lv_if_eq (tgt := 100) hx hb dX7_convertAll_83 (by decide) (fun _ => ?_) (fun c9 => absurd (by decide) c9)
          refine lv_iconst (v := 0) hx hb dX7_convertAll_100 (by decide) ?_
          refine lv_iadd hx hb dX7_convertAll_101 ?_
          refine hx_ei (show _ = nI (y + 0) from nI_add (y) (0)) ?_
          refine lv_istore_n (lv' := [(3, .int (nI (y + 0))), (5, .int ((0 : Int32))), (0, .ref (ad 0)), (1, .int (nI (t))), (2, .int (nI (cnt σ t - 1))), (4, .int (nI (i)))]) hx hb dX7_convertAll_102 rfl hl (by decide) rfl (fun ls hl => ?_)
          refine lv_iinc (v := nI (i + 1)) (lv' := [(4, .int (nI (i + 1))), (3, .int (nI (y + 0))), (5, .int ((0 : Int32))), (0, .ref (ad 0)), (1, .int (nI (t))), (2, .int (nI (cnt σ t - 1)))]) hx hb dX7_convertAll_103 hl (k := 5) rfl (nI_add (i) 1) (by decide) rfl (fun ls hl => ?_)
          refine lv_goto (tgt := 22) hx hb dX7_convertAll_106 (by decide) ?_
          have hnx := hcn (fun q => q.1 c38)
          exact ih (i + 1) (y + 0) (by omega) (by have := hnx.1; omega) _ _ _ (X.to (by rw [hnx.2])) (lv_sub hl [3, 4, 5, 1, 0] rfl)
        · skip
          refine lv_aload_n hx hb dX7_convertAll_41 rfl (lv_at hl 0 rfl) ?_
          refine hx_getL S X (ci := 7) 0 (mW_0 _ _ _) rfl hin7 8 (by decide) (by decide +kernel) rfl dX7_convertAll_42 ?_
          refine lv_iload hx hb dX7_convertAll_45 (lv_at hl 4 rfl) ?_
          refine mx_ld S X 7 (N := 24) (mW_7 _ _ _) (j := i) (by omega) (by decide) (x := sg 7 (i)) (rfl) dX7_convertAll_47 ?_
          refine lv_iload_n hx hb dX7_convertAll_48 rfl (lv_at hl 1 rfl) ?_
          refine lv_icmp_ne (tgt := 77) hx hb dX7_convertAll_49 (by decide) (fun c49 => ?_) (fun c49 => ?_)
          · skip
            refine lv_iconst (v := 0) hx hb dX7_convertAll_77 (by decide) ?_
            refine lv_istore (lv' := [(5, .int ((0 : Int32))), (0, .ref (ad 0)), (1, .int (nI (t))), (2, .int (nI (cnt σ t - 1))), (3, .int (nI (y))), (4, .int (nI (i)))]) hx hb dX7_convertAll_78 hl (by decide) rfl (fun ls hl => ?_)
            refine lv_iload_n hx hb dX7_convertAll_80 rfl (lv_at hl 4 rfl) ?_
            refine lv_iload hx hb dX7_convertAll_81 (lv_at hl 0 rfl) ?_
            refine lv_if_eq (tgt := 100) hx hb dX7_convertAll_83 (by decide) (fun _ => ?_) (fun c9 => absurd (by decide) c9)
            refine lv_iconst (v := 0) hx hb dX7_convertAll_100 (by decide) ?_
            refine lv_iadd hx hb dX7_convertAll_101 ?_
            refine hx_ei (show _ = nI (y + 0) from nI_add (y) (0)) ?_
            refine lv_istore_n (lv' := [(3, .int (nI (y + 0))), (5, .int ((0 : Int32))), (0, .ref (ad 0)), (1, .int (nI (t))), (2, .int (nI (cnt σ t - 1))), (4, .int (nI (i)))]) hx hb dX7_convertAll_102 rfl hl (by decide) rfl (fun ls hl => ?_)
            refine lv_iinc (v := nI (i + 1)) (lv' := [(4, .int (nI (i + 1))), (3, .int (nI (y + 0))), (5, .int ((0 : Int32))), (0, .ref (ad 0)), (1, .int (nI (t))), (2, .int (nI (cnt σ t - 1)))]) hx hb dX7_convertAll_103 hl (k := 5) rfl (nI_add (i) 1) (by decide) rfl (fun ls hl => ?_)
            refine lv_goto (tgt := 22) hx hb dX7_convertAll_106 (by decide) ?_
            have hnx := hcn (fun q => c49 q.2.1)
            exact ih (i + 1) (y + 0) (by omega) (by have := hnx.1; omega) _ _ _ (X.to (by rw [hnx.2])) (lv_sub hl [3, 4, 5, 1, 0] rfl)
          · skip
            refine lv_aload_n hx hb dX7_convertAll_52 rfl (lv_at hl 0 rfl) ?_
            refine hx_getL S X (ci := 7) 0 (mW_0 _ _ _) rfl hin7 9 (by decide) (by decide +kernel) rfl dX7_convertAll_53 ?_
            refine lv_iload hx hb dX7_convertAll_56 (lv_at hl 4 rfl) ?_
            refine mx_ld S X 8 (N := 24) (mW_8 _ _ _) (j := i) (by omega) (by decide) (x := sg 8 (i)) (rfl) dX7_convertAll_58 ?_
            refine lv_iload_n hx hb dX7_convertAll_59 rfl (lv_at hl 2 rfl) ?_
            refine lv_icmp_ge (tgt := 77) hx hb dX7_convertAll_60 (by decide) (fun c60 => ?_) (fun c60 => ?_)
            · skip
              refine lv_iconst (v := 0) hx hb dX7_convertAll_77 (by decide) ?_
              refine lv_istore (lv' := [(5, .int ((0 : Int32))), (0, .ref (ad 0)), (1, .int (nI (t))), (2, .int (nI (cnt σ t - 1))), (3, .int (nI (y))), (4, .int (nI (i)))]) hx hb dX7_convertAll_78 hl (by decide) rfl (fun ls hl => ?_)
              refine lv_iload_n hx hb dX7_convertAll_80 rfl (lv_at hl 4 rfl) ?_
              refine lv_iload hx hb dX7_convertAll_81 (lv_at hl 0 rfl) ?_
              refine lv_if_eq (tgt := 100) hx hb dX7_convertAll_83 (by decide) (fun _ => ?_) (fun c9 => absurd (by decide) c9)
              refine lv_iconst (v := 0) hx hb dX7_convertAll_100 (by decide) ?_
              refine lv_iadd hx hb dX7_convertAll_101 ?_
              refine hx_ei (show _ = nI (y + 0) from nI_add (y) (0)) ?_
              refine lv_istore_n (lv' := [(3, .int (nI (y + 0))), (5, .int ((0 : Int32))), (0, .ref (ad 0)), (1, .int (nI (t))), (2, .int (nI (cnt σ t - 1))), (4, .int (nI (i)))]) hx hb dX7_convertAll_102 rfl hl (by decide) rfl (fun ls hl => ?_)
              refine lv_iinc (v := nI (i + 1)) (lv' := [(4, .int (nI (i + 1))), (3, .int (nI (y + 0))), (5, .int ((0 : Int32))), (0, .ref (ad 0)), (1, .int (nI (t))), (2, .int (nI (cnt σ t - 1)))]) hx hb dX7_convertAll_103 hl (k := 5) rfl (nI_add (i) 1) (by decide) rfl (fun ls hl => ?_)
              refine lv_goto (tgt := 22) hx hb dX7_convertAll_106 (by decide) ?_
              have hnx := hcn (fun q => absurd q.2.2.1 (Int32.not_lt.mpr c60))
              exact ih (i + 1) (y + 0) (by omega) (by have := hnx.1; omega) _ _ _ (X.to (by rw [hnx.2])) (lv_sub hl [3, 4, 5, 1, 0] rfl)
            · skip
              refine lv_aload_n hx hb dX7_convertAll_63 rfl (lv_at hl 0 rfl) ?_
              refine lv_iload hx hb dX7_convertAll_64 (lv_at hl 4 rfl) ?_
              refine lv_iload_n hx hb dX7_convertAll_66 rfl (lv_at hl 2 rfl) ?_
              refine hx_Vi (rest := []) S X (c_X7_isHeldBelow l G ad sg (nI (i)) (nI (cnt σ t - 1)) hIs.1) gX7_convertAll_X7_isHeldBelow rfl (n := 2) (by decide +kernel) rfl ⟨(Nat.le_of_ble_eq_true rfl), (Nat.le_of_ble_eq_true rfl)⟩ (hx_recvL (q0 := 0) (ci := 7) X rfl (mW_0 _ _ _)) hl.1 rfl (Nat.le_of_ble_eq_true rfl) dX7_convertAll_67 ⟨(Nat.le_of_ble_eq_true rfl), (Nat.le_of_ble_eq_true rfl)⟩ (fun r wd1 H locs hp X => ?_)
              obtain ⟨hr67, rfl⟩ := hp
              by_cases hh : ∃ j, j < 32 ∧ helP sg (nI (i)) (nI (cnt σ t - 1)) j
              · skip
                refine hx_ei (hr67.1 hh) ?_
                refine lv_if_ne (tgt := 77) hx hb dX7_convertAll_70 (by decide) (fun _ => ?_) (fun c9 => absurd c9 (by decide))
                refine lv_iconst (v := 0) hx hb dX7_convertAll_77 (by decide) ?_
                refine lv_istore (lv' := [(5, .int ((0 : Int32))), (0, .ref (ad 0)), (1, .int (nI (t))), (2, .int (nI (cnt σ t - 1))), (3, .int (nI (y))), (4, .int (nI (i)))]) hx hb dX7_convertAll_78 hl (by decide) rfl (fun ls hl => ?_)
                refine lv_iload_n hx hb dX7_convertAll_80 rfl (lv_at hl 4 rfl) ?_
                refine lv_iload hx hb dX7_convertAll_81 (lv_at hl 0 rfl) ?_
                refine lv_if_eq (tgt := 100) hx hb dX7_convertAll_83 (by decide) (fun _ => ?_) (fun c9 => absurd (by decide) c9)
                refine lv_iconst (v := 0) hx hb dX7_convertAll_100 (by decide) ?_
                refine lv_iadd hx hb dX7_convertAll_101 ?_
                refine hx_ei (show _ = nI (y + 0) from nI_add (y) (0)) ?_
                refine lv_istore_n (lv' := [(3, .int (nI (y + 0))), (5, .int ((0 : Int32))), (0, .ref (ad 0)), (1, .int (nI (t))), (2, .int (nI (cnt σ t - 1))), (4, .int (nI (i)))]) hx hb dX7_convertAll_102 rfl hl (by decide) rfl (fun ls hl => ?_)
                refine lv_iinc (v := nI (i + 1)) (lv' := [(4, .int (nI (i + 1))), (3, .int (nI (y + 0))), (5, .int ((0 : Int32))), (0, .ref (ad 0)), (1, .int (nI (t))), (2, .int (nI (cnt σ t - 1)))]) hx hb dX7_convertAll_103 hl (k := 5) rfl (nI_add (i) 1) (by decide) rfl (fun ls hl => ?_)
                refine lv_goto (tgt := 22) hx hb dX7_convertAll_106 (by decide) ?_
                have hnx := hcn (fun q => q.2.2.2 hh)
                exact ih (i + 1) (y + 0) (by omega) (by have := hnx.1; omega) _ _ _ (X.to (by rw [hnx.2])) (lv_sub hl [3, 4, 5, 1, 0] rfl)
              · skip
                refine hx_ei (hr67.2 hh) ?_
                refine lv_if_ne (tgt := 77) hx hb dX7_convertAll_70 (by decide) (fun c9 => absurd (by decide) c9) (fun _ => ?_)
                refine lv_iconst (v := 1) hx hb dX7_convertAll_73 (by decide) ?_
                refine lv_goto (tgt := 78) hx hb dX7_convertAll_74 (by decide) ?_
                refine lv_istore (lv' := [(5, .int ((1 : Int32))), (0, .ref (ad 0)), (1, .int (nI (t))), (2, .int (nI (cnt σ t - 1))), (3, .int (nI (y))), (4, .int (nI (i)))]) hx hb dX7_convertAll_78 hl (by decide) rfl (fun ls hl => ?_)
                refine lv_iload_n hx hb dX7_convertAll_80 rfl (lv_at hl 4 rfl) ?_
                refine lv_iload hx hb dX7_convertAll_81 (lv_at hl 0 rfl) ?_
                refine lv_if_eq (tgt := 100) hx hb dX7_convertAll_83 (by decide) (fun c9 => absurd c9 (by decide)) (fun _ => ?_)
                refine lv_aload_n hx hb dX7_convertAll_86 rfl (lv_at hl 1 rfl) ?_
                refine lv_iload hx hb dX7_convertAll_87 (lv_at hl 5 rfl) ?_
                refine lv_iload_n hx hb dX7_convertAll_89 rfl (lv_at hl 3 rfl) ?_
                obtain ⟨d1, d2, d3⟩ := du_at hIs.1 hts (n := i) (by omega) c38 c49 (Int32.not_le.mp c60) (by omega)
                obtain ⟨⟨w0, w1⟩, ⟨w2, w3⟩, -⟩ := (hIs.1.2.2.2.2.2 i (by omega)).2 d1
                have hC6s := hIs.1.1.2
                refine hx_Vi (rest := [.int (nI (y))]) S X (c_X7_convert l G ad sg i (cnt σ t - 1) (by omega) w0 (by omega) (hIs.1.2.2.1 _ w1) w2 (by omega) (by omega)) gX7_convertAll_X7_convert rfl (n := 2) (by decide +kernel) rfl ⟨(Nat.le_of_ble_eq_true rfl), (Nat.le_of_ble_eq_true rfl)⟩ (hx_recvL (q0 := 0) (ci := 7) X rfl (mW_0 _ _ _)) hl.1 rfl (Nat.le_of_ble_eq_true rfl) dX7_convertAll_90 ⟨(Nat.le_of_ble_eq_true rfl), (Nat.le_of_ble_eq_true rfl)⟩ (fun r wd1 H locs hp X => ?_)
                obtain ⟨hr90, rfl⟩ := hp
                by_cases hcv : (M_convert sg i (cnt σ t - 1)).1 = true
                · skip
                  refine hx_ei (hr90.1 hcv) ?_
                  refine lv_if_eq (tgt := 100) hx hb dX7_convertAll_93 (by decide) (fun c9 => absurd c9 (by decide)) (fun _ => ?_)
                  refine lv_iconst (v := 1) hx hb dX7_convertAll_96 (by decide) ?_
                  refine lv_goto (tgt := 101) hx hb dX7_convertAll_97 (by decide) ?_
                  refine lv_iadd hx hb dX7_convertAll_101 ?_
                  refine hx_ei (show _ = nI (y + 1) from nI_add (y) (1)) ?_
                  refine lv_istore_n (lv' := [(3, .int (nI (y + 1))), (5, .int ((1 : Int32))), (0, .ref (ad 0)), (1, .int (nI (t))), (2, .int (nI (cnt σ t - 1))), (4, .int (nI (i)))]) hx hb dX7_convertAll_102 rfl hl (by decide) rfl (fun ls hl => ?_)
                  refine lv_iinc (v := nI (i + 1)) (lv' := [(4, .int (nI (i + 1))), (3, .int (nI (y + 1))), (5, .int ((1 : Int32))), (0, .ref (ad 0)), (1, .int (nI (t))), (2, .int (nI (cnt σ t - 1)))]) hx hb dX7_convertAll_103 hl (k := 5) rfl (nI_add (i) 1) (by decide) rfl (fun ls hl => ?_)
                  refine lv_goto (tgt := 22) hx hb dX7_convertAll_106 (by decide) ?_
                  have hnx := hcy ⟨c38, c49, Int32.not_le.mp c60, hh⟩ hcv
                  exact ih (i + 1) (y + 1) (by omega) (by have := hnx.1; omega) _ _ _ (X.to (by rw [hnx.2])) (lv_sub hl [3, 4, 5, 1, 0] rfl)
                · skip
                  refine hx_ei (hr90.2 hcv) ?_
                  refine lv_if_eq (tgt := 100) hx hb dX7_convertAll_93 (by decide) (fun _ => ?_) (fun c9 => absurd (by decide) c9)
                  refine lv_iconst (v := 0) hx hb dX7_convertAll_100 (by decide) ?_
                  refine lv_iadd hx hb dX7_convertAll_101 ?_
                  refine hx_ei (show _ = nI (y + 0) from nI_add (y) (0)) ?_
                  refine lv_istore_n (lv' := [(3, .int (nI (y + 0))), (5, .int ((1 : Int32))), (0, .ref (ad 0)), (1, .int (nI (t))), (2, .int (nI (cnt σ t - 1))), (4, .int (nI (i)))]) hx hb dX7_convertAll_102 rfl hl (by decide) rfl (fun ls hl => ?_)
                  refine lv_iinc (v := nI (i + 1)) (lv' := [(4, .int (nI (i + 1))), (3, .int (nI (y + 0))), (5, .int ((1 : Int32))), (0, .ref (ad 0)), (1, .int (nI (t))), (2, .int (nI (cnt σ t - 1)))]) hx hb dX7_convertAll_103 hl (k := 5) rfl (nI_add (i) 1) (by decide) rfl (fun ls hl => ?_)
                  refine lv_goto (tgt := 22) hx hb dX7_convertAll_106 (by decide) ?_
                  have hnx := hcf ⟨c38, c49, Int32.not_le.mp c60, hh⟩ hcv
                  exact ih (i + 1) (y + 0) (by omega) (by have := hnx.1; omega) _ _ _ (X.to (by rw [hnx.2])) (lv_sub hl [3, 4, 5, 1, 0] rfl)
    exact loop (nO σ) 0 0 (by omega) rfl _ _ _ X (lv_sub hl [3, 4, 2, 1, 0] rfl)
  · skip
    refine hx_ei (hr2.2 h2) ?_
    refine lv_if_ne (tgt := 11) hx hb dX7_convertAll_5 (by decide) (fun c9 => absurd (by decide) c9) (fun _ => ?_)
    refine lv_ldc (v := -2000001) hx hb hown (hts (Cond.constant RX7 66 (-2000001)) (by decide +kernel)) dX7_convertAll_8 ?_
    exact hx_iret S X hr hlk (Nat.le_of_ble_eq_true rfl) (Nat.le_of_ble_eq_true rfl) (by simp [M_convertAll, wif_f, h2]) dX7_convertAll_10
set_option maxRecDepth 100000 in
set_option maxHeartbeats 4000000 in
theorem c_X6_convertAll (l : Launch) (G : hG) (L : List Nat) (f : Nat → va_E) (ad : xAd) (σ : Sg) (type : Int32) (hI : Inv σ) (hR : RX G L f ad σ) (hFr : Fr σ) : hMi l G yX6_convertAll wsX6_convertAll ({ frames := 5, cells := 0, slots := 0, locals := 109 } : Room) (va_pl L f) [.ref (ad 0 0 0 0), .int (type)] (fun r w => r = (M_convertAll σ type).1 ∧ XPo G (ad 0 0 0 0) (M_convertAll σ type).2 w) := by
  refine hMi.of (cc := cX6_convertAll) (maxL := 6) (some .int) RX6 rfl (by decide +kernel) rfl (Nat.le_of_ble_eq_true rfl) ?_
  intro p e s m args below meth c S hr hlk X ls hl
  have hx := S.1
  have hb := S.2.1
  have hown := S.2.2.2.1
  have hts := S.2.2.2.2
  have hl : lv_has ls 6 [(0, .ref (ad 0 0 0 0)), (1, .int (type))] := hl
  have hin0 : ∀ w ∈ wsX00, w ∈ wsX6_convertAll := by decide +kernel
  have hin1 : ∀ w ∈ wsX10, w ∈ wsX6_convertAll := by decide +kernel
  have hin2 : ∀ w ∈ wsX20, w ∈ wsX6_convertAll := by decide +kernel
  have hin3 : ∀ w ∈ wsX30, w ∈ wsX6_convertAll := by decide +kernel
  have hin4 : ∀ w ∈ wsX40, w ∈ wsX6_convertAll := by decide +kernel
  have hin5 : ∀ w ∈ wsX50, w ∈ wsX6_convertAll := by decide +kernel
  have hin6 : ∀ w ∈ wsX60, w ∈ wsX6_convertAll := by decide +kernel
  have hC6 : nC σ ≤ 6 := hI.1.2
  have hO24 : nO σ ≤ 24 := hI.2.1.2
  obtain ⟨m0, f0⟩ := rx0 hR
  obtain ⟨g1, m1, f1, e1⟩ := rx1 hR
  obtain ⟨g2, m2, f2, e2⟩ := rx2 hR
  obtain ⟨g3, m3, f3, e3⟩ := rx3 hR
  refine lv_aload_n hx hb dX6_convertAll_0 rfl (lv_at hl 0 rfl) ?_
  refine lv_iload_n hx hb dX6_convertAll_1 rfl (lv_at hl 1 rfl) ?_
  refine hx_Vq (rest := []) S X (c_X6_historyOf l G L f ad σ (type) hI hR) gX6_convertAll_X6_historyOf rfl (n := 1) (by decide +kernel) rfl ⟨(Nat.le_of_ble_eq_true rfl), (Nat.le_of_ble_eq_true rfl)⟩ (xp_recv (ci := 6) X rfl m0 f0) hl.1 rfl (Nat.le_of_ble_eq_true rfl) dX6_convertAll_2 ⟨(Nat.le_of_ble_eq_true rfl), (Nat.le_of_ble_eq_true rfl)⟩ (fun r wd1 H locs hp X => ?_)
  obtain ⟨hr2, hs2, rfl⟩ := hp
  by_cases hC : isC σ (type)
  · skip
    have hC' := hC
    obtain ⟨t, ht, rfl⟩ := hC
    have hct : (nI t).toNatClampNeg = t := nI_clamp (by omega)
    obtain ⟨⟨hk0, hk1, hk2⟩, hks, hkv⟩ := hI.2.2.1 t ht
    obtain ⟨hm4, hf4⟩ := rx4 hR ht
    obtain ⟨gf, hm5, hf5, he5⟩ := rx5 hR ht
    obtain ⟨gc, hm6, hf6, he6⟩ := rx6 hR ht
    refine hx_eq (show r = some (ad 4 t 0 0) from hr2 t ht rfl) ?_
    refine lv_astore_n (lv' := [(2, .ref (ad 4 t 0 0)), (0, .ref (ad 0 0 0 0)), (1, .int (nI (t)))]) hx hb dX6_convertAll_5 rfl hl (by decide) rfl (fun ls hl => ?_)
    refine lv_aload_n hx hb dX6_convertAll_6 rfl (lv_at hl 0 rfl) ?_
    refine lv_ifnonnull (tgt := 13) hx hb dX6_convertAll_7 (by decide) ?_
    refine lv_iconst (v := 0) hx hb dX6_convertAll_13 (by decide) ?_
    refine lv_istore_n (lv' := [(3, .int ((0 : Int32))), (2, .ref (ad 4 t 0 0)), (0, .ref (ad 0 0 0 0)), (1, .int (nI (t)))]) hx hb dX6_convertAll_14 rfl hl (by decide) rfl (fun ls hl => ?_)
    refine lv_iconst (v := 0) hx hb dX6_convertAll_15 (by decide) ?_
    refine lv_istore (lv' := [(4, .int ((0 : Int32))), (3, .int ((0 : Int32))), (2, .ref (ad 4 t 0 0)), (0, .ref (ad 0 0 0 0)), (1, .int (nI (t)))]) hx hb dX6_convertAll_16 hl (by decide) rfl (fun ls hl => ?_)
    have loop : ∀ (n9 i : Nat) (y : Nat) (F : Nat → va_E), i + n9 = nO σ → (y = (caL σ t (cnt σ t - 1) i).1 ∧ RX G L F ad (caL σ t (cnt σ t - 1) i).2) → ∀ (H : Heap) (locs : List Loc) (ls : Array Slot), hH G (va_A (va_pl L f) s.heap.size) s.heap s (va_pl L F) H locs → lv_has ls 6 [(0, .ref (ad 0 0 0 0)), (1, .int (nI (t))), (2, .ref (ad 4 t 0 0)), (3, .int (nI (y))), (4, .int (nI (i)))] → W p l e ({ frames := 5, cells := 0, slots := 0, locals := 109 } : Room) s m args below meth c H locs 0 0 (MQ below (va_Qi (fun r w => r = (M_convertAll σ (nI t)).1 ∧ XPo G (ad 0 0 0 0) (M_convertAll σ (nI t)).2 w) (hB G (va_A (va_pl L f) s.heap.size)) (va_A (va_pl L f) s.heap.size)) args s 0 0 (va_A (va_pl L f) s.heap.size)) (F0 m 18 ls []) := by
      intro n9
      induction n9 with
      | zero =>
        intro i y F hi9 hv H locs ls X hl
        have hin : i = nO σ := by omega
        obtain ⟨hIs, hks, -⟩ := ca_all ⟨hI, hFr⟩ ht i (by omega)
        have eO : nO (caL σ t (cnt σ t - 1) i).2 = nO σ := by unfold nO; rw [hks 0 (by decide) (by decide)]
        have eC : nC (caL σ t (cnt σ t - 1) i).2 = nC σ := by unfold nC; rw [hks 0 (by decide) (by decide)]
        obtain ⟨n0, q0⟩ := rx0 hv.2
        rw [eO, eC] at q0
        refine lv_iload hx hb dX6_convertAll_18 (lv_at hl 4 rfl) ?_
        refine lv_aload_n hx hb dX6_convertAll_20 rfl (lv_at hl 0 rfl) ?_
        refine xp_get S X (ci := 6) n0 q0 rfl hin6 4 (by decide) (by decide +kernel) rfl dX6_convertAll_21 ?_
        refine lv_icmp_ge (tgt := 75) hx hb dX6_convertAll_24 (by decide) (fun _ => ?_) (fun c9 => absurd (nI_le (a := nO σ) (b := i) (by omega) (by omega)) c9)
        refine lv_iload_n hx hb dX6_convertAll_75 rfl (lv_at hl 3 rfl) ?_
        exact hx_iret S X hr hlk (Nat.le_of_ble_eq_true rfl) (Nat.le_of_ble_eq_true rfl) ⟨by rw [hv.1, hin, M_convertAll, wif_t hC', show cN (nI t) = t from hct], by rw [M_convertAll, wif_t hC', show cN (nI t) = t from hct, ← hin]; exact ⟨_, _, _, rfl, hv.2, rfl⟩⟩ dX6_convertAll_76
      | succ n9 ih =>
        intro i y F hi9 hv H locs ls X hl
        have hin : i < nO σ := by omega
        obtain ⟨hIs, hks, -⟩ := ca_all ⟨hI, hFr⟩ ht i (by omega)
        have hcn := @ca_no σ t (cnt σ t - 1) i
        have hcy := @ca_yes σ t (cnt σ t - 1) i
        have hcf := @ca_fail σ t (cnt σ t - 1) i
        obtain ⟨hv1, hRs⟩ := hv
        obtain ⟨sg, hsg⟩ : ∃ sg, sg = (caL σ t (cnt σ t - 1) i).2 := ⟨_, rfl⟩
        rw [← hsg] at hRs hIs hcn hcy hcf
        simp only [← hsg] at hks
        have hts : t < nC sg := by unfold nC at ht ⊢; rw [hks 0 (by decide) (by decide)]; exact ht
        have eO : nO sg = nO σ := by unfold nO; rw [hks 0 (by decide) (by decide)]
        have eC : nC sg = nC σ := by unfold nC; rw [hks 0 (by decide) (by decide)]
        have eK : cnt sg t = cnt σ t := by unfold cnt; rw [hks 1 (by decide) (by decide)]
        have his : i < nO sg := by omega
        obtain ⟨n0, q0⟩ := rx0 hRs
        rw [eO, eC] at q0
        obtain ⟨n4, q4⟩ := rx4 hRs hts
        rw [eK] at q4
        refine lv_iload hx hb dX6_convertAll_18 (lv_at hl 4 rfl) ?_
        refine lv_aload_n hx hb dX6_convertAll_20 rfl (lv_at hl 0 rfl) ?_
        refine xp_get S X (ci := 6) n0 q0 rfl hin6 4 (by decide) (by decide +kernel) rfl dX6_convertAll_21 ?_
        refine lv_icmp_ge (tgt := 75) hx hb dX6_convertAll_24 (by decide) (fun c9 => absurd c9 (nI_ge (a := i) (b := nO σ) (by omega) (by omega))) (fun _ => ?_)
        refine lv_aload_n hx hb dX6_convertAll_27 rfl (lv_at hl 0 rfl) ?_
        refine lv_iload hx hb dX6_convertAll_28 (lv_at hl 4 rfl) ?_
        refine lv_aload_n hx hb dX6_convertAll_30 rfl (lv_at hl 2 rfl) ?_
        refine hx_Vq (rest := []) S X (c_X6_outdatedObject l G L F ad sg t i hIs.1 hRs hts his) gX6_convertAll_X6_outdatedObject rfl (n := 2) (by decide +kernel) rfl ⟨(Nat.le_of_ble_eq_true rfl), (Nat.le_of_ble_eq_true rfl)⟩ (xp_recv (ci := 6) X rfl n0 q0) hl.1 rfl (Nat.le_of_ble_eq_true rfl) dX6_convertAll_31 ⟨(Nat.le_of_ble_eq_true rfl), (Nat.le_of_ble_eq_true rfl)⟩ (fun r wd1 H locs hp X => ?_)
        obtain ⟨hr31, hs31, rfl⟩ := hp
        by_cases hO : outP sg (nI t) i
        · skip
          have hex : sg 6 i = 1 := (hIs.1.2.2.2.2.2 i his).1.resolve_left hO.1
          obtain ⟨⟨o1, o2⟩, ⟨o3, o4⟩, ⟨o5, o6⟩, o7⟩ := (hIs.1.2.2.2.2.2 i his).2 hex
          have ok8 := (hIs.1.2.2.1 _ o2).1.2.2
          have hCs6 := hIs.1.1.2
          have hoc : oC sg i = t := (nI_eq (by omega) (by omega)).mp (o1.symm.trans hO.2.1)
          have hov : oV sg i < cnt σ t - 1 := by rw [hoc, eK] at o4; have h9 : ¬ oV sg i = cnt σ t - 1 := fun q => hO.2.2 (by rw [o3, q, show cN (nI t) = t from hct, eK]; exact (nI_pred2 hk1).symm); omega
          obtain ⟨n13, q13⟩ := rx13 hRs his hex
          obtain ⟨g14, n14, q14, e14⟩ := rx14 hRs his hex
          obtain ⟨nh4, qh4⟩ := rx4 hRs o2
          refine hx_eq (show r = some (ad 13 i 0 0) from hr31 hO) ?_
          refine lv_astore (lv' := [(5, .ref (ad 13 i 0 0)), (0, .ref (ad 0 0 0 0)), (1, .int (nI (t))), (2, .ref (ad 4 t 0 0)), (3, .int (nI (y))), (4, .int (nI (i)))]) hx hb dX6_convertAll_34 hl (by decide) rfl (fun ls hl => ?_)
          refine lv_aload hx hb dX6_convertAll_36 (lv_at hl 0 rfl) ?_
          refine lv_ifnull hx hb dX6_convertAll_38 ?_
          refine lv_aload_n hx hb dX6_convertAll_41 rfl (lv_at hl 1 rfl) ?_
          refine lv_iload hx hb dX6_convertAll_42 (lv_at hl 5 rfl) ?_
          refine hx_Vi (rest := []) S X (c_X6_smallestPin l G L F ad sg (nI i) hIs.1 hRs) gX6_convertAll_X6_smallestPin rfl (n := 1) (by decide +kernel) rfl ⟨(Nat.le_of_ble_eq_true rfl), (Nat.le_of_ble_eq_true rfl)⟩ (xp_recv (ci := 6) X rfl n0 q0) hl.1 rfl (Nat.le_of_ble_eq_true rfl) dX6_convertAll_44 ⟨(Nat.le_of_ble_eq_true rfl), (Nat.le_of_ble_eq_true rfl)⟩ (fun r wd1 H locs hp X => ?_)
          obtain ⟨rfl, rfl⟩ := hp
          refine lv_aload_n hx hb dX6_convertAll_47 rfl (lv_at hl 3 rfl) ?_
          refine xp_getN (host := RX6) S X (ci := 1) n4 q4 rfl hin1 3 (by decide) (by decide +kernel) rfl dX6_convertAll_48 ?_
          refine lv_icmp_lt (tgt := 69) hx hb dX6_convertAll_51 (by decide) (fun c51 => ?_) (fun c51 => ?_)
          · skip
            refine lv_iinc (v := nI (i + 1)) (lv' := [(4, .int (nI (i + 1))), (5, .ref (ad 13 i 0 0)), (0, .ref (ad 0 0 0 0)), (1, .int (nI (t))), (2, .ref (ad 4 t 0 0)), (3, .int (nI (y)))]) hx hb dX6_convertAll_69 hl (k := 5) rfl (nI_add (i) 1) (by decide) rfl (fun ls hl => ?_)
            refine lv_goto (tgt := 18) hx hb dX6_convertAll_72 (by decide) ?_
            have hnx := hcn (fun q => q.2.2.2 ((spS_hel hIs.1 (nI i) (by omega)).mp c51))
            exact ih (i + 1) (y) F (by omega) ⟨by rw [hnx.1, hv1], by rw [hnx.2]; exact hRs⟩ _ _ _ X (lv_sub hl [2, 3, 4, 5, 0] rfl)
          · skip
            refine lv_aload hx hb dX6_convertAll_54 (lv_at hl 0 rfl) ?_
            refine lv_aload_n hx hb dX6_convertAll_56 rfl (lv_at hl 3 rfl) ?_
            refine xp_getN (host := RX6) S X (ci := 1) n4 q4 rfl hin1 3 (by decide) (by decide +kernel) rfl dX6_convertAll_57 ?_
            obtain ⟨rv, hrv⟩ := rx_rows hRs his hex
            obtain ⟨gs, hgs⟩ := rx_stps hRs o2
            obtain ⟨gc6, hm6, hf6, he6⟩ := rx6 hRs o2
            refine hx_Vi (rest := []) S X (c_X5_convertTo l G L F (ad 13 i 0 0) (ad 4 (oC sg i) 0 0) (ad 14 i 0 0) (ad 6 (oC sg i) 0 0) (oV sg i) (cnt σ t - 1) (nI (oF sg i)) g14 gc6 (fun v => ad 15 i v 0) (fun v => ad 7 (oC sg i) v 0) (fun v => ad 8 (oC sg i) v 0) rv (fun v => stp sg (oC sg i) v) gs (fun v n => ad 9 (oC sg i) v n) (fun v n => sg 1 (stI (oC sg i) v n)) (fun v n => sg 1 (stI (oC sg i) v n + 1)) (fun v n => sg 1 (stI (oC sg i) v n + 2)) _ _ _ _ n13 q13 n14 q14 nh4 qh4 hm6 hf6 (by omega) (by omega) e14 (fun v hv => (hRs.1 15 i v 0 ⟨⟨his, hex⟩, hv, rfl⟩).1) hrv (fun a b ha hb e => (hRs.2 15 i a 0 15 i b 0 ⟨⟨his, hex⟩, ha, rfl⟩ ⟨⟨his, hex⟩, hb, rfl⟩ e).2.2.1) he6 (fun v hv => (rx7 hRs o2 hv).1) (fun v hv => (rx7 hRs o2 hv).2) (fun v hv => ((hIs.1.2.2.1 _ o2).2.2 v hv).1.2) (fun v hv => (hRs.1 8 (oC sg i) v 0 ⟨o2, hv, rfl⟩).1) (fun v hv => (hgs v hv).1) (fun v hv => (hgs v hv).2) (fun v hv k hk => (rx9 hRs o2 hv hk).1) (fun v hv k hk => (rx9 hRs o2 hv hk).2) (fun v hv => ((hIs.1.2.2.1 _ o2).2.2 v hv).2)) gX6_convertAll_X5_convertTo rfl (n := 1) (by decide +kernel) rfl ⟨(Nat.le_of_ble_eq_true rfl), (Nat.le_of_ble_eq_true rfl)⟩ (xp_recv (ci := 5) X rfl n13 q13) hl.1 rfl (Nat.le_of_ble_eq_true rfl) dX6_convertAll_60 ⟨(Nat.le_of_ble_eq_true rfl), (Nat.le_of_ble_eq_true rfl)⟩ (fun r wd1 H locs hp X => ?_)
            obtain ⟨hr60, f2, rfl, hR2⟩ := conv_post hIs.1 hRs his hex (by omega) (by omega) hrv rfl hp
            by_cases hcv : (M_convert sg i (cnt σ t - 1)).1 = true
            · skip
              refine hx_ei (hr60.1 hcv) ?_
              refine lv_if_eq (tgt := 69) hx hb dX6_convertAll_63 (by decide) (fun c9 => absurd c9 (by decide)) (fun _ => ?_)
              refine lv_iinc (v := nI (y + 1)) (lv' := [(3, .int (nI (y + 1))), (5, .ref (ad 13 i 0 0)), (0, .ref (ad 0 0 0 0)), (1, .int (nI (t))), (2, .ref (ad 4 t 0 0)), (4, .int (nI (i)))]) hx hb dX6_convertAll_66 hl (k := 4) rfl (nI_add (y) 1) (by decide) rfl (fun ls hl => ?_)
              refine lv_iinc (v := nI (i + 1)) (lv' := [(4, .int (nI (i + 1))), (3, .int (nI (y + 1))), (5, .ref (ad 13 i 0 0)), (0, .ref (ad 0 0 0 0)), (1, .int (nI (t))), (2, .ref (ad 4 t 0 0))]) hx hb dX6_convertAll_69 hl (k := 5) rfl (nI_add (i) 1) (by decide) rfl (fun ls hl => ?_)
              refine lv_goto (tgt := 18) hx hb dX6_convertAll_72 (by decide) ?_
              have hh : ¬ ∃ j, j < 32 ∧ helP sg (nI i) (nI (cnt σ t - 1)) j := fun q => c51 ((spS_hel hIs.1 (nI i) (by omega)).mpr q)
              have hnx := hcy ⟨hO.1, hO.2.1, by rw [o3]; exact nI_lt hov (by omega), hh⟩ hcv
              exact ih (i + 1) (y + 1) f2 (by omega) ⟨by rw [hnx.1, hv1], by rw [hnx.2]; exact hR2⟩ _ _ _ X (lv_sub hl [3, 4, 5, 1, 0] rfl)
            · skip
              refine hx_ei (hr60.2 hcv) ?_
              refine lv_if_eq (tgt := 69) hx hb dX6_convertAll_63 (by decide) (fun _ => ?_) (fun c9 => absurd (by decide) c9)
              refine lv_iinc (v := nI (i + 1)) (lv' := [(4, .int (nI (i + 1))), (5, .ref (ad 13 i 0 0)), (0, .ref (ad 0 0 0 0)), (1, .int (nI (t))), (2, .ref (ad 4 t 0 0)), (3, .int (nI (y)))]) hx hb dX6_convertAll_69 hl (k := 5) rfl (nI_add (i) 1) (by decide) rfl (fun ls hl => ?_)
              refine lv_goto (tgt := 18) hx hb dX6_convertAll_72 (by decide) ?_
              have hh : ¬ ∃ j, j < 32 ∧ helP sg (nI i) (nI (cnt σ t - 1)) j := fun q => c51 ((spS_hel hIs.1 (nI i) (by omega)).mpr q)
              have hnx := hcf ⟨hO.1, hO.2.1, by rw [o3]; exact nI_lt hov (by omega), hh⟩ hcv
              exact ih (i + 1) (y) f2 (by omega) ⟨by rw [hnx.1, hv1], by rw [hnx.2]; exact hR2⟩ _ _ _ X (lv_sub hl [2, 3, 4, 5, 0] rfl)
        · skip
          refine hx_eq (show r = none from hs31 hO) ?_
          refine lv_astoreN (lv' := [(5, .null), (0, .ref (ad 0 0 0 0)), (1, .int (nI (t))), (2, .ref (ad 4 t 0 0)), (3, .int (nI (y))), (4, .int (nI (i)))]) hx hb dX6_convertAll_34 hl (by decide) rfl (fun ls hl => ?_)
          refine lv_aloadN hx hb dX6_convertAll_36 (lv_at hl 0 rfl) ?_
          refine lv_ifnullN (tgt := 69) hx hb dX6_convertAll_38 (by decide) ?_
          refine lv_iinc (v := nI (i + 1)) (lv' := [(4, .int (nI (i + 1))), (5, .null), (0, .ref (ad 0 0 0 0)), (1, .int (nI (t))), (2, .ref (ad 4 t 0 0)), (3, .int (nI (y)))]) hx hb dX6_convertAll_69 hl (k := 5) rfl (nI_add (i) 1) (by decide) rfl (fun ls hl => ?_)
          refine lv_goto (tgt := 18) hx hb dX6_convertAll_72 (by decide) ?_
          have hnx := hcn (fun q => hO ⟨q.1, q.2.1, fun z => absurd q.2.2.1 (by rw [z, show cN (nI t) = t from hct, eK, nI_pred2 hk1]; exact Int32.lt_irrefl)⟩)
          exact ih (i + 1) (y) F (by omega) ⟨by rw [hnx.1, hv1], by rw [hnx.2]; exact hRs⟩ _ _ _ X (lv_sub hl [2, 3, 4, 5, 0] rfl)
    exact loop (nO σ) 0 0 f (by omega) ⟨rfl, hR⟩ _ _ _ X (lv_sub hl [3, 4, 2, 1, 0] rfl)
  · skip
    refine hx_eq (show r = none from hs2 hC) ?_
    refine lv_astore_nN (lv' := [(2, .null), (0, .ref (ad 0 0 0 0)), (1, .int (type))]) hx hb dX6_convertAll_5 rfl hl (by decide) rfl (fun ls hl => ?_)
    refine lv_aload_nN hx hb dX6_convertAll_6 rfl (lv_at hl 0 rfl) ?_
    refine lv_ifnonnullN hx hb dX6_convertAll_7 ?_
    refine lv_ldc (v := -2000001) hx hb hown (hts (Cond.constant RX6 41 (-2000001)) (by decide +kernel)) dX6_convertAll_10 ?_
    exact hx_iret S X hr hlk (Nat.le_of_ble_eq_true rfl) (Nat.le_of_ble_eq_true rfl) ⟨by simp [M_convertAll, wif_t, wif_f, hC], by simp [M_convertAll, wif_t, wif_f, hC]; exact ⟨L, f, ad, rfl, hR, rfl⟩⟩ dX6_convertAll_12
