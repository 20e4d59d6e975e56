set_option maxRecDepth 100000 in
set_option maxHeartbeats 4000000 in
theorem c_X6_countFrames (l : Launch) (G : hG) (L : List Nat) (f : Nat → va_E) (ad : xAd) (σ : Sg) (type lo up : Int32) (hI : Inv σ) (hR : RX G L f ad σ)  : hMi l G yX6_countFrames wsX6_countFrames ({ frames := 1, cells := 0, slots := 0, locals := 26 } : Room) (va_pl L f) [.ref (ad 0 0 0 0), .int (type), .int (lo), .int (up)] (fun r w => r = nI (cfS σ type lo up 4) ∧ w = va_pl L f) := by
  refine hMi.of (cc := cX6_countFrames) (maxL := 6) (some .int) RX6 rfl (by decide +kernel) rfl (Nat.le_of_ble_eq_true rfl) ?_
  intro p e s m args below meth c S hr hlk X ls hl
  have hx := S.1
  have hb := S.2.1
  have hown := S.2.2.2.1
  have hts := S.2.2.2.2
  have hl : lv_has ls 6 [(0, .ref (ad 0 0 0 0)), (1, .int (type)), (2, .int (lo)), (3, .int (up))] := hl
  have hin0 : ∀ w ∈ wsX00, w ∈ wsX6_countFrames := by decide +kernel
  have hin1 : ∀ w ∈ wsX10, w ∈ wsX6_countFrames := by decide +kernel
  have hin3 : ∀ w ∈ wsX30, w ∈ wsX6_countFrames := by decide +kernel
  have hin6 : ∀ w ∈ wsX60, w ∈ wsX6_countFrames := by decide +kernel
  have hC6 : nC σ ≤ 6 := hI.1.2
  have hO24 : nO σ ≤ 24 := hI.2.1.2
  obtain ⟨m0, f0⟩ := rx0 hR
  obtain ⟨g1, m1, f1, e1⟩ := rx1 hR
  obtain ⟨g2, m2, f2, e2⟩ := rx2 hR
  obtain ⟨g3, m3, f3, e3⟩ := rx3 hR
  refine lv_iconst (v := 0) hx hb dX6_countFrames_0 (by decide) ?_
  refine lv_istore (lv' := [(4, .int ((0 : Int32))), (0, .ref (ad 0 0 0 0)), (1, .int (type)), (2, .int (lo)), (3, .int (up))]) hx hb dX6_countFrames_1 hl (by decide) rfl (fun ls hl => ?_)
  refine lv_iconst (v := 0) hx hb dX6_countFrames_3 (by decide) ?_
  refine lv_istore (lv' := [(5, .int ((0 : Int32))), (4, .int ((0 : Int32))), (0, .ref (ad 0 0 0 0)), (1, .int (type)), (2, .int (lo)), (3, .int (up))]) hx hb dX6_countFrames_4 hl (by decide) rfl (fun ls hl => ?_)
  have loop : ∀ (n9 i : Nat) (y : Nat), i + n9 = 4 → y = cfS σ type lo up i → ∀ (H : Heap) (locs : List Loc) (ls : Array Slot), hH G (va_A (va_pl L f) s.heap.size) s.heap s (va_pl L f) H locs → lv_has ls 6 [(0, .ref (ad 0 0 0 0)), (1, .int (type)), (2, .int (lo)), (3, .int (up)), (4, .int (nI (y))), (5, .int (nI (i)))] → W p l e ({ frames := 1, cells := 0, slots := 0, locals := 26 } : Room) s m args below meth c H locs 0 0 (MQ below (va_Qi (fun r w => r = nI (cfS σ type lo up 4) ∧ w = va_pl L f) (hB G (va_A (va_pl L f) s.heap.size)) (va_A (va_pl L f) s.heap.size)) args s 0 0 (va_A (va_pl L f) s.heap.size)) (F0 m 6 ls []) := by
    intro n9
    induction n9 with
    | zero =>
      intro i y hi9 hv H locs ls X hl
      have hin : i = 4 := by omega
      refine lv_iload hx hb dX6_countFrames_6 (lv_at hl 5 rfl) ?_
      refine lv_iconst (v := 4) hx hb dX6_countFrames_8 (by decide) ?_
      refine lv_icmp_ge (tgt := 36) hx hb dX6_countFrames_9 (by decide) (fun _ => ?_) (fun c9 => absurd (nI_le (a := 4) (b := i) (by omega) (by omega)) c9)
      refine lv_iload hx hb dX6_countFrames_36 (lv_at hl 4 rfl) ?_
      exact hx_iret S X hr hlk (Nat.le_of_ble_eq_true rfl) (Nat.le_of_ble_eq_true rfl) ⟨by rw [hv, hin], rfl⟩ dX6_countFrames_38
    | succ n9 ih =>
      intro i y hi9 hv H locs ls X hl
      have hI4 : i < 4 := by omega
      obtain ⟨hd0, hd8⟩ := hI.2.2.2.1 i hI4
      obtain ⟨hm10, hf10⟩ := rx10 hR hI4
      obtain ⟨g11, hm11, hf11, he11⟩ := rx11 hR hI4
      refine lv_iload hx hb dX6_countFrames_6 (lv_at hl 5 rfl) ?_
      refine lv_iconst (v := 4) hx hb dX6_countFrames_8 (by decide) ?_
      refine lv_icmp_ge (tgt := 36) hx hb dX6_countFrames_9 (by decide) (fun c9 => absurd c9 (nI_ge (a := i) (b := 4) (by omega) (by omega))) (fun _ => ?_)
      refine lv_iload hx hb dX6_countFrames_12 (lv_at hl 4 rfl) ?_
      refine lv_aload_n hx hb dX6_countFrames_14 rfl (lv_at hl 0 rfl) ?_
      refine xp_get S X (ci := 6) m0 f0 rfl hin6 2 (by decide) (by decide +kernel) rfl dX6_countFrames_15 ?_
      refine lv_iload hx hb dX6_countFrames_18 (lv_at hl 5 rfl) ?_
      refine xp_ald S X 2 rfl rfl m2 f2 (j := i) (by omega) (by decide) (x := .ref (ad 10 i 0 0)) (by rw [e2 i hI4]; rfl) dX6_countFrames_20 ?_
      refine lv_iload_n hx hb dX6_countFrames_21 rfl (lv_at hl 1 rfl) ?_
      refine lv_iload_n hx hb dX6_countFrames_22 rfl (lv_at hl 2 rfl) ?_
      refine lv_iload_n hx hb dX6_countFrames_23 rfl (lv_at hl 3 rfl) ?_
      refine hx_Vi (rest := [.int (nI (y))]) S X (c_X0_countFrames l G L f (ad 10 i 0 0) (ad 11 i 0 0) (dN σ i) g11 (fun k => ad 12 i k 0) (fun k => ad 4 (fC σ (8 * i + k)) 0 0) (fun k => nI (fV σ (8 * i + k))) (fun k => σ 5 (8 * i + k)) (fun k => nI (fC σ (8 * i + k))) (type) (lo) (up) hm10 hf10 hm11 hf11 hd8 (fun k hk => he11 k hk) (fun k hk => (rx12 hR hI4 hk).1) (fun k hk => (rx12 hR hI4 hk).2) (fun k hk => (rx4 hR (hI.2.2.2.2.1 (8 * i + k) (by omega) (liv_at hk hd8)).1.2).1) (fun k hk => ⟨_, _, _, _, (rx4 hR (hI.2.2.2.2.1 (8 * i + k) (by omega) (liv_at hk hd8)).1.2).2⟩)) gX6_countFrames_X0_countFrames rfl (n := 3) (by decide +kernel) rfl ⟨(Nat.le_of_ble_eq_true rfl), (Nat.le_of_ble_eq_true rfl)⟩ (xp_recv (ci := 0) X rfl hm10 hf10) hl.1 rfl (Nat.le_of_ble_eq_true rfl) dX6_countFrames_24 ⟨(Nat.le_of_ble_eq_true rfl), (Nat.le_of_ble_eq_true rfl)⟩ (fun r wd1 H locs hp X => ?_)
      obtain ⟨rfl, rfl⟩ := hp
      refine lv_iadd hx hb dX6_countFrames_27 ?_
      refine hx_ei (show _ = nI (y + cnq (fun k => nI (fC σ (8 * i + k)) = type ∧ lo ≤ nI (fV σ (8 * i + k)) ∧ nI (fV σ (8 * i + k)) ≤ up) (dN σ i)) from nI_add (y) (cnq (fun k => nI (fC σ (8 * i + k)) = type ∧ lo ≤ nI (fV σ (8 * i + k)) ∧ nI (fV σ (8 * i + k)) ≤ up) (dN σ i))) ?_
      refine lv_istore (lv' := [(4, .int (nI (y + cnq (fun k => nI (fC σ (8 * i + k)) = type ∧ lo ≤ nI (fV σ (8 * i + k)) ∧ nI (fV σ (8 * i + k)) ≤ up) (dN σ i)))), (0, .ref (ad 0 0 0 0)), (1, .int (type)), (2, .int (lo)), (3, .int (up)), (5, .int (nI (i)))]) hx hb dX6_countFrames_28 hl (by decide) rfl (fun ls hl => ?_)
      refine lv_iinc (v := nI (i + 1)) (lv' := [(5, .int (nI (i + 1))), (4, .int (nI (y + cnq (fun k => nI (fC σ (8 * i + k)) = type ∧ lo ≤ nI (fV σ (8 * i + k)) ∧ nI (fV σ (8 * i + k)) ≤ up) (dN σ i)))), (0, .ref (ad 0 0 0 0)), (1, .int (type)), (2, .int (lo)), (3, .int (up))]) hx hb dX6_countFrames_30 hl (k := 5) rfl (nI_add (i) 1) (by decide) rfl (fun ls hl => ?_)
      refine lv_goto (tgt := 6) hx hb dX6_countFrames_33 (by decide) ?_
      exact ih (i + 1) (y + cnq (fun k => nI (fC σ (8 * i + k)) = type ∧ lo ≤ nI (fV σ (8 * i + k)) ∧ nI (fV σ (8 * i + k)) ≤ up) (dN σ i)) (by omega) (by rw [hv, cfS]) _ _ _ X (lv_sub hl [2, 3, 4, 5, 1, 0] rfl)
  exact loop 4 0 0 (by omega) rfl _ _ _ X (lv_sub hl [2, 3, 4, 5, 1, 0] rfl)

set_option maxRecDepth 100000 in
set_option maxHeartbeats 4000000 in
theorem c_X6_smallestPin (l : Launch) (G : hG) (L : List Nat) (f : Nat → va_E) (ad : xAd) (σ : Sg) (o : Int32) (hI : Inv σ) (hR : RX G L f ad σ)  : hMi l G yX6_smallestPin wsX6_smallestPin ({ frames := 2, cells := 0, slots := 0, locals := 63 } : Room) (va_pl L f) [.ref (ad 0 0 0 0), .int (o)] (fun r w => r = spS σ o 4 ∧ w = va_pl L f) := by
  refine hMi.of (cc := cX6_smallestPin) (maxL := 4) (some .int) RX6 rfl (by decide +kernel) rfl (Nat.le_of_ble_eq_true rfl) ?_
  intro p e s m args below meth c S hr hlk X ls hl
  have hx := S.1
  have hb := S.2.1
  have hown := S.2.2.2.1
  have hts := S.2.2.2.2
  have hl : lv_has ls 4 [(0, .ref (ad 0 0 0 0)), (1, .int (o))] := hl
  have hin0 : ∀ w ∈ wsX00, w ∈ wsX6_smallestPin := by decide +kernel
  have hin3 : ∀ w ∈ wsX30, w ∈ wsX6_smallestPin := by decide +kernel
  have hin6 : ∀ w ∈ wsX60, w ∈ wsX6_smallestPin := by decide +kernel
  have hC6 : nC σ ≤ 6 := hI.1.2
  have hO24 : nO σ ≤ 24 := hI.2.1.2
  obtain ⟨m0, f0⟩ := rx0 hR
  obtain ⟨g1, m1, f1, e1⟩ := rx1 hR
  obtain ⟨g2, m2, f2, e2⟩ := rx2 hR
  obtain ⟨g3, m3, f3, e3⟩ := rx3 hR
  refine lv_bipush (v := 8) hx hb dX6_smallestPin_0 (by decide) ?_
  refine lv_istore_n (lv' := [(2, .int ((8 : Int32))), (0, .ref (ad 0 0 0 0)), (1, .int (o))]) hx hb dX6_smallestPin_2 rfl hl (by decide) rfl (fun ls hl => ?_)
  refine lv_iconst (v := 0) hx hb dX6_smallestPin_3 (by decide) ?_
  refine lv_istore_n (lv' := [(3, .int ((0 : Int32))), (2, .int ((8 : Int32))), (0, .ref (ad 0 0 0 0)), (1, .int (o))]) hx hb dX6_smallestPin_4 rfl hl (by decide) rfl (fun ls hl => ?_)
  have loop : ∀ (n9 i : Nat) (y : Int32), i + n9 = 4 → y = spS σ o i → ∀ (H : Heap) (locs : List Loc) (ls : Array Slot), hH G (va_A (va_pl L f) s.heap.size) s.heap s (va_pl L f) H locs → lv_has ls 4 [(0, .ref (ad 0 0 0 0)), (1, .int (o)), (2, .int (y)), (3, .int (nI (i)))] → W p l e ({ frames := 2, cells := 0, slots := 0, locals := 63 } : Room) s m args below meth c H locs 0 0 (MQ below (va_Qi (fun r w => r = spS σ o 4 ∧ w = va_pl L f) (hB G (va_A (va_pl L f) s.heap.size)) (va_A (va_pl L f) s.heap.size)) args s 0 0 (va_A (va_pl L f) s.heap.size)) (F0 m 5 ls []) := by
    intro n9
    induction n9 with
    | zero =>
      intro i y hi9 hv H locs ls X hl
      have hin : i = 4 := by omega
      refine lv_iload_n hx hb dX6_smallestPin_5 rfl (lv_at hl 3 rfl) ?_
      refine lv_iconst (v := 4) hx hb dX6_smallestPin_6 (by decide) ?_
      refine lv_icmp_ge (tgt := 31) hx hb dX6_smallestPin_7 (by decide) (fun _ => ?_) (fun c9 => absurd (nI_le (a := 4) (b := i) (by omega) (by omega)) c9)
      refine lv_iload_n hx hb dX6_smallestPin_31 rfl (lv_at hl 2 rfl) ?_
      exact hx_iret S X hr hlk (Nat.le_of_ble_eq_true rfl) (Nat.le_of_ble_eq_true rfl) ⟨by rw [hv, hin], rfl⟩ dX6_smallestPin_32
    | succ n9 ih =>
      intro i y hi9 hv H locs ls X hl
      have hI4 : i < 4 := by omega
      obtain ⟨hd0, hd8⟩ := hI.2.2.2.1 i hI4
      obtain ⟨hm10, hf10⟩ := rx10 hR hI4
      obtain ⟨g11, hm11, hf11, he11⟩ := rx11 hR hI4
      refine lv_iload_n hx hb dX6_smallestPin_5 rfl (lv_at hl 3 rfl) ?_
      refine lv_iconst (v := 4) hx hb dX6_smallestPin_6 (by decide) ?_
      refine lv_icmp_ge (tgt := 31) hx hb dX6_smallestPin_7 (by decide) (fun c9 => absurd c9 (nI_ge (a := i) (b := 4) (by omega) (by omega))) (fun _ => ?_)
      refine lv_iload_n hx hb dX6_smallestPin_10 rfl (lv_at hl 2 rfl) ?_
      refine lv_aload_n hx hb dX6_smallestPin_11 rfl (lv_at hl 0 rfl) ?_
      refine xp_get S X (ci := 6) m0 f0 rfl hin6 2 (by decide) (by decide +kernel) rfl dX6_smallestPin_12 ?_
      refine lv_iload_n hx hb dX6_smallestPin_15 rfl (lv_at hl 3 rfl) ?_
      refine xp_ald S X 2 rfl rfl m2 f2 (j := i) (by omega) (by decide) (x := .ref (ad 10 i 0 0)) (by rw [e2 i hI4]; rfl) dX6_smallestPin_16 ?_
      refine lv_iload_n hx hb dX6_smallestPin_17 rfl (lv_at hl 1 rfl) ?_
      refine hx_Vi (rest := [.int (y)]) S X (c_X0_smallestPin l G L f (ad 10 i 0 0) (ad 11 i 0 0) (dN σ i) g11 (fun k => ad 12 i k 0) (fun k => ad 4 (fC σ (8 * i + k)) 0 0) (fun k => nI (fV σ (8 * i + k))) (fun k => σ 5 (8 * i + k)) (o) hm10 hf10 hm11 hf11 hd8 (fun k hk => he11 k hk) (fun k hk => (rx12 hR hI4 hk).1) (fun k hk => (rx12 hR hI4 hk).2)) gX6_smallestPin_X0_smallestPin rfl (n := 1) (by decide +kernel) rfl ⟨(Nat.le_of_ble_eq_true rfl), (Nat.le_of_ble_eq_true rfl)⟩ (xp_recv (ci := 0) X rfl hm10 hf10) hl.1 rfl (Nat.le_of_ble_eq_true rfl) dX6_smallestPin_18 ⟨(Nat.le_of_ble_eq_true rfl), (Nat.le_of_ble_eq_true rfl)⟩ (fun r wd1 H locs hp X => ?_)
      obtain ⟨rfl, rfl⟩ := hp
      refine va_mmin hx hb (by rw [S.2.2.1]; exact hl.1.symm) hown (hts (Cond.methodLink RX6 182 Lib.Math.min.name) (by decide +kernel)) (hts (Cond.static Lib.Math.min.name) (by decide +kernel)) (hts (Cond.initialized "java/lang/Math") (by decide +kernel)) (hts (Cond.code Lib.Math.min.name Lib.Math.min.code 2 (some .int)) (by decide +kernel)) (Nat.le_of_ble_eq_true rfl) (Nat.le_of_ble_eq_true rfl) (Nat.le_of_ble_eq_true rfl) (Nat.le_of_ble_eq_true rfl) dX6_smallestPin_21 ?_
      refine lv_topi (fun y1 ey1 => ?_)
      refine lv_istore_n (lv' := [(2, .int (y1)), (0, .ref (ad 0 0 0 0)), (1, .int (o)), (3, .int (nI (i)))]) hx hb dX6_smallestPin_24 rfl hl (by decide) rfl (fun ls hl => ?_)
      refine lv_iinc (v := nI (i + 1)) (lv' := [(3, .int (nI (i + 1))), (2, .int (y1)), (0, .ref (ad 0 0 0 0)), (1, .int (o))]) hx hb dX6_smallestPin_25 hl (k := 3) rfl (nI_add (i) 1) (by decide) rfl (fun ls hl => ?_)
      refine lv_goto (tgt := 5) hx hb dX6_smallestPin_28 (by decide) ?_
      exact ih (i + 1) _ (by omega) (by rw [spS, ← hv]; exact ey1) _ _ _ X (lv_sub hl [2, 3, 1, 0] rfl)
  exact loop 4 0 8 (by omega) rfl _ _ _ X (lv_sub hl [2, 3, 1, 0] rfl)

set_option maxRecDepth 100000 in
set_option maxHeartbeats 4000000 in
theorem c_X6_depth (l : Launch) (G : hG) (L : List Nat) (f : Nat → va_E) (ad : xAd) (σ : Sg) (thread : Int32) (hI : Inv σ) (hR : RX G L f ad σ)  : hMi l G yX6_depth wsX6_depth ({ frames := 1, cells := 0, slots := 0, locals := 21 } : Room) (va_pl L f) [.ref (ad 0 0 0 0), .int (thread)] (fun r w => r = (M_depth σ thread).1 ∧ XPo G (ad 0 0 0 0) (M_depth σ thread).2 w) := by
  refine hMi.of (cc := cX6_depth) (maxL := 3) (some .int) RX6 rfl (by decide +kernel) rfl (Nat.le_of_ble_eq_true rfl) ?_
  intro p e s m args below meth c S hr hlk X ls hl
  have hx := S.1
  have hb := S.2.1
  have hown := S.2.2.2.1
  have hts := S.2.2.2.2
  have hl : lv_has ls 3 [(0, .ref (ad 0 0 0 0)), (1, .int (thread))] := hl
  have hin0 : ∀ w ∈ wsX00, w ∈ wsX6_depth := by decide +kernel
  have hin6 : ∀ w ∈ wsX60, w ∈ wsX6_depth := by decide +kernel
  have hC6 : nC σ ≤ 6 := hI.1.2
  have hO24 : nO σ ≤ 24 := hI.2.1.2
  obtain ⟨m0, f0⟩ := rx0 hR
  obtain ⟨g1, m1, f1, e1⟩ := rx1 hR
  obtain ⟨g2, m2, f2, e2⟩ := rx2 hR
  obtain ⟨g3, m3, f3, e3⟩ := rx3 hR
  refine lv_aload_n hx hb dX6_depth_0 rfl (lv_at hl 0 rfl) ?_
  refine lv_iload_n hx hb dX6_depth_1 rfl (lv_at hl 1 rfl) ?_
  refine hx_Vq (rest := []) S X (c_X6_stackOf l G L f ad σ (thread) hI hR) gX6_depth_X6_stackOf rfl (n := 1) (by decide +kernel) rfl ⟨(Nat.le_of_ble_eq_true rfl), (Nat.le_of_ble_eq_true rfl)⟩ (xp_recv (ci := 6) X rfl m0 f0) hl.1 rfl (Nat.le_of_ble_eq_true rfl) dX6_depth_2 ⟨(Nat.le_of_ble_eq_true rfl), (Nat.le_of_ble_eq_true rfl)⟩ (fun r wd1 H locs hp X => ?_)
  obtain ⟨hr2, hs2, rfl⟩ := hp
  by_cases hT : isT (thread)
  · skip
    have hT' := hT
    obtain ⟨th, hth, rfl⟩ := hT
    have hcth : (nI th).toNatClampNeg = th := nI_clamp (by omega)
    obtain ⟨hd0, hd8⟩ := hI.2.2.2.1 th hth
    obtain ⟨hm10, hf10⟩ := rx10 hR hth
    obtain ⟨g11, hm11, hf11, he11⟩ := rx11 hR hth
    refine hx_eq (show r = some (ad 10 th 0 0) from hr2 th hth rfl) ?_
    refine lv_astore_n (lv' := [(2, .ref (ad 10 th 0 0)), (0, .ref (ad 0 0 0 0)), (1, .int (nI (th)))]) hx hb dX6_depth_5 rfl hl (by decide) rfl (fun ls hl => ?_)
    refine lv_aload_n hx hb dX6_depth_6 rfl (lv_at hl 0 rfl) ?_
    refine lv_ifnonnull (tgt := 13) hx hb dX6_depth_7 (by decide) ?_
    refine lv_aload_n hx hb dX6_depth_13 rfl (lv_at hl 0 rfl) ?_
    refine xp_getN (host := RX6) S X (ci := 0) hm10 hf10 rfl hin0 1 (by decide) (by decide +kernel) rfl dX6_depth_14 ?_
    exact hx_iret S X hr hlk (Nat.le_of_ble_eq_true rfl) (Nat.le_of_ble_eq_true rfl) ⟨by simp [M_depth, wif_t, wif_f, hT', hcth], by simp [M_depth, wif_t, wif_f, hT', hcth]; exact ⟨L, f, ad, rfl, hR, rfl⟩⟩ dX6_depth_17
  · skip
    refine hx_eq (show r = none from hs2 hT) ?_
    refine lv_astore_nN (lv' := [(2, .null), (0, .ref (ad 0 0 0 0)), (1, .int (thread))]) hx hb dX6_depth_5 rfl hl (by decide) rfl (fun ls hl => ?_)
    refine lv_aload_nN hx hb dX6_depth_6 rfl (lv_at hl 0 rfl) ?_
    refine lv_ifnonnullN hx hb dX6_depth_7 ?_
    refine lv_ldc (v := -2000003) hx hb hown (hts (Cond.constant RX6 104 (-2000003)) (by decide +kernel)) dX6_depth_10 ?_
    exact hx_iret S X hr hlk (Nat.le_of_ble_eq_true rfl) (Nat.le_of_ble_eq_true rfl) ⟨by simp [M_depth, wif_t, wif_f, hT], by simp [M_depth, wif_t, wif_f, hT]; exact ⟨L, f, ad, rfl, hR, rfl⟩⟩ dX6_depth_12

set_option maxRecDepth 100000 in
set_option maxHeartbeats 4000000 in
theorem c_X6_frameClass (l : Launch) (G : hG) (L : List Nat) (f : Nat → va_E) (ad : xAd) (σ : Sg) (thread index : Int32) (hI : Inv σ) (hR : RX G L f ad σ)  : hMi l G yX6_frameClass wsX6_frameClass ({ frames := 1, cells := 0, slots := 0, locals := 21 } : Room) (va_pl L f) [.ref (ad 0 0 0 0), .int (thread), .int (index)] (fun r w => r = (M_frameClass σ thread index).1 ∧ XPo G (ad 0 0 0 0) (M_frameClass σ thread index).2 w) := by
  refine hMi.of (cc := cX6_frameClass) (maxL := 5) (some .int) RX6 rfl (by decide +kernel) rfl (Nat.le_of_ble_eq_true rfl) ?_
  intro p e s m args below meth c S hr hlk X ls hl
  have hx := S.1
  have hb := S.2.1
  have hown := S.2.2.2.1
  have hts := S.2.2.2.2
  have hl : lv_has ls 5 [(0, .ref (ad 0 0 0 0)), (1, .int (thread)), (2, .int (index))] := hl
  have hin0 : ∀ w ∈ wsX00, w ∈ wsX6_frameClass := by decide +kernel
  have hin1 : ∀ w ∈ wsX10, w ∈ wsX6_frameClass := by decide +kernel
  have hin3 : ∀ w ∈ wsX30, w ∈ wsX6_frameClass := by decide +kernel
  have hin6 : ∀ w ∈ wsX60, w ∈ wsX6_frameClass := by decide +kernel
  have hC6 : nC σ ≤ 6 := hI.1.2
  have hO24 : nO σ ≤ 24 := hI.2.1.2
  obtain ⟨m0, f0⟩ := rx0 hR
  obtain ⟨g1, m1, f1, e1⟩ := rx1 hR
  obtain ⟨g2, m2, f2, e2⟩ := rx2 hR
  obtain ⟨g3, m3, f3, e3⟩ := rx3 hR
  refine lv_aload_n hx hb dX6_frameClass_0 rfl (lv_at hl 0 rfl) ?_
  refine lv_iload_n hx hb dX6_frameClass_1 rfl (lv_at hl 1 rfl) ?_
  refine hx_Vq (rest := []) S X (c_X6_stackOf l G L f ad σ (thread) hI hR) gX6_frameClass_X6_stackOf rfl (n := 1) (by decide +kernel) rfl ⟨(Nat.le_of_ble_eq_true rfl), (Nat.le_of_ble_eq_true rfl)⟩ (xp_recv (ci := 6) X rfl m0 f0) hl.1 rfl (Nat.le_of_ble_eq_true rfl) dX6_frameClass_2 ⟨(Nat.le_of_ble_eq_true rfl), (Nat.le_of_ble_eq_true rfl)⟩ (fun r wd1 H locs hp X => ?_)
  obtain ⟨hr2, hs2, rfl⟩ := hp
  by_cases hT : isT (thread)
  · skip
    have hT' := hT
    obtain ⟨th, hth, rfl⟩ := hT
    have hcth : (nI th).toNatClampNeg = th := nI_clamp (by omega)
    obtain ⟨hd0, hd8⟩ := hI.2.2.2.1 th hth
    obtain ⟨hm10, hf10⟩ := rx10 hR hth
    obtain ⟨g11, hm11, hf11, he11⟩ := rx11 hR hth
    refine hx_eq (show r = some (ad 10 th 0 0) from hr2 th hth rfl) ?_
    refine lv_astore_n (lv' := [(3, .ref (ad 10 th 0 0)), (0, .ref (ad 0 0 0 0)), (1, .int (nI (th))), (2, .int (index))]) hx hb dX6_frameClass_5 rfl hl (by decide) rfl (fun ls hl => ?_)
    refine lv_aload_n hx hb dX6_frameClass_6 rfl (lv_at hl 0 rfl) ?_
    refine lv_ifnonnull (tgt := 13) hx hb dX6_frameClass_7 (by decide) ?_
    refine lv_aload_n hx hb dX6_frameClass_13 rfl (lv_at hl 0 rfl) ?_
    refine lv_iload_n hx hb dX6_frameClass_14 rfl (lv_at hl 3 rfl) ?_
    refine hx_Vq (rest := []) S X (c_X0_frameAt l G L f (ad 10 th 0 0) (ad 11 th 0 0) (dN σ th) g11 (index) hm10 hf10 hm11 hf11 hd8) gX6_frameClass_X0_frameAt rfl (n := 1) (by decide +kernel) rfl ⟨(Nat.le_of_ble_eq_true rfl), (Nat.le_of_ble_eq_true rfl)⟩ (xp_recv (ci := 0) X rfl hm10 hf10) hl.1 rfl (Nat.le_of_ble_eq_true rfl) dX6_frameClass_15 ⟨(Nat.le_of_ble_eq_true rfl), (Nat.le_of_ble_eq_true rfl)⟩ (fun r wd1 H locs hp X => ?_)
    obtain ⟨hr15, hs15, rfl⟩ := hp
    by_cases hK : ∃ k : Nat, k < dN σ th ∧ index = nI k
    · skip
      have hK' := hK
      obtain ⟨k, hk, rfl⟩ := hK
      have hck : (nI k).toNatClampNeg = k := nI_clamp (by omega)
      obtain ⟨hm12, hf12⟩ := rx12 hR hth hk
      have hlv := liv_at hk hd8
      obtain ⟨⟨j1, j2⟩, ⟨j3, j4⟩, j5⟩ := hI.2.2.2.2.1 (8 * th + k) (by omega) hlv
      obtain ⟨hmf4, hff4⟩ := rx4 hR j2
      refine hx_eq (show r = some (ad 12 th k 0) from (hr15 k hk rfl).trans (he11 k hk)) ?_
      refine lv_astore (lv' := [(4, .ref (ad 12 th k 0)), (3, .ref (ad 10 th 0 0)), (0, .ref (ad 0 0 0 0)), (1, .int (nI (th))), (2, .int (nI (k)))]) hx hb dX6_frameClass_18 hl (by decide) rfl (fun ls hl => ?_)
      refine lv_aload hx hb dX6_frameClass_20 (lv_at hl 0 rfl) ?_
      refine lv_ifnonnull (tgt := 28) hx hb dX6_frameClass_22 (by decide) ?_
      refine lv_aload hx hb dX6_frameClass_28 (lv_at hl 0 rfl) ?_
      refine xp_getN (host := RX6) S X (ci := 3) hm12 hf12 rfl hin3 0 (by decide) (by decide +kernel) rfl dX6_frameClass_30 ?_
      refine xp_getN (host := RX6) S X (ci := 1) hmf4 hff4 rfl hin1 0 (by decide) (by decide +kernel) rfl dX6_frameClass_33 ?_
      exact hx_iret S X hr hlk (Nat.le_of_ble_eq_true rfl) (Nat.le_of_ble_eq_true rfl) ⟨by simp [M_frameClass, wif_t, wif_f, hT', hcth, hK', hck, j1, j3], by simp [M_frameClass, wif_t, wif_f, hT', hcth, hK', hck, j1, j3]; exact ⟨L, f, ad, rfl, hR, rfl⟩⟩ dX6_frameClass_36
    · skip
      refine hx_eq (show r = none from hs15 hK) ?_
      refine lv_astoreN (lv' := [(4, .null), (3, .ref (ad 10 th 0 0)), (0, .ref (ad 0 0 0 0)), (1, .int (nI (th))), (2, .int (index))]) hx hb dX6_frameClass_18 hl (by decide) rfl (fun ls hl => ?_)
      refine lv_aloadN hx hb dX6_frameClass_20 (lv_at hl 0 rfl) ?_
      refine lv_ifnonnullN hx hb dX6_frameClass_22 ?_
      refine lv_ldc (v := -2000006) hx hb hown (hts (Cond.constant RX6 119 (-2000006)) (by decide +kernel)) dX6_frameClass_25 ?_
      exact hx_iret S X hr hlk (Nat.le_of_ble_eq_true rfl) (Nat.le_of_ble_eq_true rfl) ⟨by simp [M_frameClass, wif_t, wif_f, hT', hcth, hK], by simp [M_frameClass, wif_t, wif_f, hT', hcth, hK]; exact ⟨L, f, ad, rfl, hR, rfl⟩⟩ dX6_frameClass_27
  · skip
    refine hx_eq (show r = none from hs2 hT) ?_
    refine lv_astore_nN (lv' := [(3, .null), (0, .ref (ad 0 0 0 0)), (1, .int (thread)), (2, .int (index))]) hx hb dX6_frameClass_5 rfl hl (by decide) rfl (fun ls hl => ?_)
    refine lv_aload_nN hx hb dX6_frameClass_6 rfl (lv_at hl 0 rfl) ?_
    refine lv_ifnonnullN hx hb dX6_frameClass_7 ?_
    refine lv_ldc (v := -2000003) hx hb hown (hts (Cond.constant RX6 104 (-2000003)) (by decide +kernel)) dX6_frameClass_10 ?_
    exact hx_iret S X hr hlk (Nat.le_of_ble_eq_true rfl) (Nat.le_of_ble_eq_true rfl) ⟨by simp [M_frameClass, wif_t, wif_f, hT], by simp [M_frameClass, wif_t, wif_f, hT]; exact ⟨L, f, ad, rfl, hR, rfl⟩⟩ dX6_frameClass_12

set_option maxRecDepth 100000 in
set_option maxHeartbeats 4000000 in
theorem c_X6_frameVersion (l : Launch) (G : hG) (L : List Nat) (f : Nat → va_E) (ad : xAd) (σ : Sg) (thread index : Int32) (hI : Inv σ) (hR : RX G L f ad σ)  : hMi l G yX6_frameVersion wsX6_frameVersion ({ frames := 1, cells := 0, slots := 0, locals := 21 } : Room) (va_pl L f) [.ref (ad 0 0 0 0), .int (thread), .int (index)] (fun r w => r = (M_frameVersion σ thread index).1 ∧ XPo G (ad 0 0 0 0) (M_frameVersion σ thread index).2 w) := by
  refine hMi.of (cc := cX6_frameVersion) (maxL := 5) (some .int) RX6 rfl (by decide +kernel) rfl (Nat.le_of_ble_eq_true rfl) ?_
  intro p e s m args below meth c S hr hlk X ls hl
  have hx := S.1
  have hb := S.2.1
  have hown := S.2.2.2.1
  have hts := S.2.2.2.2
  have hl : lv_has ls 5 [(0, .ref (ad 0 0 0 0)), (1, .int (thread)), (2, .int (index))] := hl
  have hin0 : ∀ w ∈ wsX00, w ∈ wsX6_frameVersion := by decide +kernel
  have hin3 : ∀ w ∈ wsX30, w ∈ wsX6_frameVersion := by decide +kernel
  have hin6 : ∀ w ∈ wsX60, w ∈ wsX6_frameVersion := by decide +kernel
  have hC6 : nC σ ≤ 6 := hI.1.2
  have hO24 : nO σ ≤ 24 := hI.2.1.2
  obtain ⟨m0, f0⟩ := rx0 hR
  obtain ⟨g1, m1, f1, e1⟩ := rx1 hR
  obtain ⟨g2, m2, f2, e2⟩ := rx2 hR
  obtain ⟨g3, m3, f3, e3⟩ := rx3 hR
  refine lv_aload_n hx hb dX6_frameVersion_0 rfl (lv_at hl 0 rfl) ?_
  refine lv_iload_n hx hb dX6_frameVersion_1 rfl (lv_at hl 1 rfl) ?_
  refine hx_Vq (rest := []) S X (c_X6_stackOf l G L f ad σ (thread) hI hR) gX6_frameVersion_X6_stackOf rfl (n := 1) (by decide +kernel) rfl ⟨(Nat.le_of_ble_eq_true rfl), (Nat.le_of_ble_eq_true rfl)⟩ (xp_recv (ci := 6) X rfl m0 f0) hl.1 rfl (Nat.le_of_ble_eq_true rfl) dX6_frameVersion_2 ⟨(Nat.le_of_ble_eq_true rfl), (Nat.le_of_ble_eq_true rfl)⟩ (fun r wd1 H locs hp X => ?_)
  obtain ⟨hr2, hs2, rfl⟩ := hp
  by_cases hT : isT (thread)
  · skip
    have hT' := hT
    obtain ⟨th, hth, rfl⟩ := hT
    have hcth : (nI th).toNatClampNeg = th := nI_clamp (by omega)
    obtain ⟨hd0, hd8⟩ := hI.2.2.2.1 th hth
    obtain ⟨hm10, hf10⟩ := rx10 hR hth
    obtain ⟨g11, hm11, hf11, he11⟩ := rx11 hR hth
    refine hx_eq (show r = some (ad 10 th 0 0) from hr2 th hth rfl) ?_
    refine lv_astore_n (lv' := [(3, .ref (ad 10 th 0 0)), (0, .ref (ad 0 0 0 0)), (1, .int (nI (th))), (2, .int (index))]) hx hb dX6_frameVersion_5 rfl hl (by decide) rfl (fun ls hl => ?_)
    refine lv_aload_n hx hb dX6_frameVersion_6 rfl (lv_at hl 0 rfl) ?_
    refine lv_ifnonnull (tgt := 13) hx hb dX6_frameVersion_7 (by decide) ?_
    refine lv_aload_n hx hb dX6_frameVersion_13 rfl (lv_at hl 0 rfl) ?_
    refine lv_iload_n hx hb dX6_frameVersion_14 rfl (lv_at hl 3 rfl) ?_
    refine hx_Vq (rest := []) S X (c_X0_frameAt l G L f (ad 10 th 0 0) (ad 11 th 0 0) (dN σ th) g11 (index) hm10 hf10 hm11 hf11 hd8) gX6_frameVersion_X0_frameAt rfl (n := 1) (by decide +kernel) rfl ⟨(Nat.le_of_ble_eq_true rfl), (Nat.le_of_ble_eq_true rfl)⟩ (xp_recv (ci := 0) X rfl hm10 hf10) hl.1 rfl (Nat.le_of_ble_eq_true rfl) dX6_frameVersion_15 ⟨(Nat.le_of_ble_eq_true rfl), (Nat.le_of_ble_eq_true rfl)⟩ (fun r wd1 H locs hp X => ?_)
    obtain ⟨hr15, hs15, rfl⟩ := hp
    by_cases hK : ∃ k : Nat, k < dN σ th ∧ index = nI k
    · skip
      have hK' := hK
      obtain ⟨k, hk, rfl⟩ := hK
      have hck : (nI k).toNatClampNeg = k := nI_clamp (by omega)
      obtain ⟨hm12, hf12⟩ := rx12 hR hth hk
      have hlv := liv_at hk hd8
      obtain ⟨⟨j1, j2⟩, ⟨j3, j4⟩, j5⟩ := hI.2.2.2.2.1 (8 * th + k) (by omega) hlv
      obtain ⟨hmf4, hff4⟩ := rx4 hR j2
      refine hx_eq (show r = some (ad 12 th k 0) from (hr15 k hk rfl).trans (he11 k hk)) ?_
      refine lv_astore (lv' := [(4, .ref (ad 12 th k 0)), (3, .ref (ad 10 th 0 0)), (0, .ref (ad 0 0 0 0)), (1, .int (nI (th))), (2, .int (nI (k)))]) hx hb dX6_frameVersion_18 hl (by decide) rfl (fun ls hl => ?_)
      refine lv_aload hx hb dX6_frameVersion_20 (lv_at hl 0 rfl) ?_
      refine lv_ifnonnull (tgt := 28) hx hb dX6_frameVersion_22 (by decide) ?_
      refine lv_aload hx hb dX6_frameVersion_28 (lv_at hl 0 rfl) ?_
      refine xp_getN (host := RX6) S X (ci := 3) hm12 hf12 rfl hin3 1 (by decide) (by decide +kernel) rfl dX6_frameVersion_30 ?_
      exact hx_iret S X hr hlk (Nat.le_of_ble_eq_true rfl) (Nat.le_of_ble_eq_true rfl) ⟨by simp [M_frameVersion, wif_t, wif_f, hT', hcth, hK', hck, j1, j3], by simp [M_frameVersion, wif_t, wif_f, hT', hcth, hK', hck, j1, j3]; exact ⟨L, f, ad, rfl, hR, rfl⟩⟩ dX6_frameVersion_33
    · skip
      refine hx_eq (show r = none from hs15 hK) ?_
      refine lv_astoreN (lv' := [(4, .null), (3, .ref (ad 10 th 0 0)), (0, .ref (ad 0 0 0 0)), (1, .int (nI (th))), (2, .int (index))]) hx hb dX6_frameVersion_18 hl (by decide) rfl (fun ls hl => ?_)
      refine lv_aloadN hx hb dX6_frameVersion_20 (lv_at hl 0 rfl) ?_
      refine lv_ifnonnullN hx hb dX6_frameVersion_22 ?_
      refine lv_ldc (v := -2000006) hx hb hown (hts (Cond.constant RX6 119 (-2000006)) (by decide +kernel)) dX6_frameVersion_25 ?_
      exact hx_iret S X hr hlk (Nat.le_of_ble_eq_true rfl) (Nat.le_of_ble_eq_true rfl) ⟨by simp [M_frameVersion, wif_t, wif_f, hT', hcth, hK], by simp [M_frameVersion, wif_t, wif_f, hT', hcth, hK]; exact ⟨L, f, ad, rfl, hR, rfl⟩⟩ dX6_frameVersion_27
  · skip
    refine hx_eq (show r = none from hs2 hT) ?_
    refine lv_astore_nN (lv' := [(3, .null), (0, .ref (ad 0 0 0 0)), (1, .int (thread)), (2, .int (index))]) hx hb dX6_frameVersion_5 rfl hl (by decide) rfl (fun ls hl => ?_)
    refine lv_aload_nN hx hb dX6_frameVersion_6 rfl (lv_at hl 0 rfl) ?_
    refine lv_ifnonnullN hx hb dX6_frameVersion_7 ?_
    refine lv_ldc (v := -2000003) hx hb hown (hts (Cond.constant RX6 104 (-2000003)) (by decide +kernel)) dX6_frameVersion_10 ?_
    exact hx_iret S X hr hlk (Nat.le_of_ble_eq_true rfl) (Nat.le_of_ble_eq_true rfl) ⟨by simp [M_frameVersion, wif_t, wif_f, hT], by simp [M_frameVersion, wif_t, wif_f, hT]; exact ⟨L, f, ad, rfl, hR, rfl⟩⟩ dX6_frameVersion_12

set_option maxRecDepth 100000 in
set_option maxHeartbeats 4000000 in
theorem c_X6_oldFrames (l : Launch) (G : hG) (L : List Nat) (f : Nat → va_E) (ad : xAd) (σ : Sg) (type : Int32) (hI : Inv σ) (hR : RX G L f ad σ)  : hMi l G yX6_oldFrames wsX6_oldFrames ({ frames := 2, cells := 0, slots := 0, locals := 51 } : Room) (va_pl L f) [.ref (ad 0 0 0 0), .int (type)] (fun r w => r = (M_oldFrames σ type).1 ∧ XPo G (ad 0 0 0 0) (M_oldFrames σ type).2 w) := by
  refine hMi.of (cc := cX6_oldFrames) (maxL := 3) (some .int) RX6 rfl (by decide +kernel) rfl (Nat.le_of_ble_eq_true rfl) ?_
  intro p e s m args below meth c S hr hlk X ls hl
  have hx := S.1
  have hb := S.2.1
  have hown := S.2.2.2.1
  have hts := S.2.2.2.2
  have hl : lv_has ls 3 [(0, .ref (ad 0 0 0 0)), (1, .int (type))] := hl
  have hin0 : ∀ w ∈ wsX00, w ∈ wsX6_oldFrames := by decide +kernel
  have hin1 : ∀ w ∈ wsX10, w ∈ wsX6_oldFrames := by decide +kernel
  have hin3 : ∀ w ∈ wsX30, w ∈ wsX6_oldFrames := by decide +kernel
  have hin6 : ∀ w ∈ wsX60, w ∈ wsX6_oldFrames := by decide +kernel
  have hC6 : nC σ ≤ 6 := hI.1.2
  have hO24 : nO σ ≤ 24 := hI.2.1.2
  obtain ⟨m0, f0⟩ := rx0 hR
  obtain ⟨g1, m1, f1, e1⟩ := rx1 hR
  obtain ⟨g2, m2, f2, e2⟩ := rx2 hR
  obtain ⟨g3, m3, f3, e3⟩ := rx3 hR
  refine lv_aload_n hx hb dX6_oldFrames_0 rfl (lv_at hl 0 rfl) ?_
  refine lv_iload_n hx hb dX6_oldFrames_1 rfl (lv_at hl 1 rfl) ?_
  refine hx_Vq (rest := []) S X (c_X6_historyOf l G L f ad σ (type) hI hR) gX6_oldFrames_X6_historyOf rfl (n := 1) (by decide +kernel) rfl ⟨(Nat.le_of_ble_eq_true rfl), (Nat.le_of_ble_eq_true rfl)⟩ (xp_recv (ci := 6) X rfl m0 f0) hl.1 rfl (Nat.le_of_ble_eq_true rfl) dX6_oldFrames_2 ⟨(Nat.le_of_ble_eq_true rfl), (Nat.le_of_ble_eq_true rfl)⟩ (fun r wd1 H locs hp X => ?_)
  obtain ⟨hr2, hs2, rfl⟩ := hp
  by_cases hC : isC σ (type)
  · skip
    have hC' := hC
    obtain ⟨t, ht, rfl⟩ := hC
    have hct : (nI t).toNatClampNeg = t := nI_clamp (by omega)
    obtain ⟨⟨hk0, hk1, hk2⟩, hks, hkv⟩ := hI.2.2.1 t ht
    obtain ⟨hm4, hf4⟩ := rx4 hR ht
    obtain ⟨gf, hm5, hf5, he5⟩ := rx5 hR ht
    obtain ⟨gc, hm6, hf6, he6⟩ := rx6 hR ht
    refine hx_eq (show r = some (ad 4 t 0 0) from hr2 t ht rfl) ?_
    refine lv_astore_n (lv' := [(2, .ref (ad 4 t 0 0)), (0, .ref (ad 0 0 0 0)), (1, .int (nI (t)))]) hx hb dX6_oldFrames_5 rfl hl (by decide) rfl (fun ls hl => ?_)
    refine lv_aload_n hx hb dX6_oldFrames_6 rfl (lv_at hl 0 rfl) ?_
    refine lv_ifnonnull (tgt := 13) hx hb dX6_oldFrames_7 (by decide) ?_
    refine lv_aload_n hx hb dX6_oldFrames_13 rfl (lv_at hl 1 rfl) ?_
    refine lv_iload_n hx hb dX6_oldFrames_14 rfl (lv_at hl 2 rfl) ?_
    refine lv_iconst (v := 0) hx hb dX6_oldFrames_15 (by decide) ?_
    refine lv_aload_n hx hb dX6_oldFrames_16 rfl (lv_at hl 0 rfl) ?_
    refine xp_getN (host := RX6) S X (ci := 1) hm4 hf4 rfl hin1 3 (by decide) (by decide +kernel) rfl dX6_oldFrames_17 ?_
    refine lv_iconst (v := 1) hx hb dX6_oldFrames_20 (by decide) ?_
    refine lv_isub hx hb dX6_oldFrames_21 ?_
    refine hx_ei (show _ = nI (cnt σ t - 1) - 1 from rfl) ?_
    refine hx_Vi (rest := []) S X (c_X6_countFrames l G L f ad σ (nI (t)) ((0 : Int32)) (nI (cnt σ t - 1) - 1) hI hR) gX6_oldFrames_X6_countFrames rfl (n := 3) (by decide +kernel) rfl ⟨(Nat.le_of_ble_eq_true rfl), (Nat.le_of_ble_eq_true rfl)⟩ (xp_recv (ci := 6) X rfl m0 f0) hl.1 rfl (Nat.le_of_ble_eq_true rfl) dX6_oldFrames_22 ⟨(Nat.le_of_ble_eq_true rfl), (Nat.le_of_ble_eq_true rfl)⟩ (fun r wd1 H locs hp X => ?_)
    obtain ⟨rfl, rfl⟩ := hp
    exact hx_iret S X hr hlk (Nat.le_of_ble_eq_true rfl) (Nat.le_of_ble_eq_true rfl) ⟨by simp [M_oldFrames, wif_t, hC']; rw [cfS_old hI ht], by simp [M_oldFrames, wif_t, hC']; exact ⟨L, f, ad, rfl, hR, rfl⟩⟩ dX6_oldFrames_25
  · skip
    refine hx_eq (show r = none from hs2 hC) ?_
    refine lv_astore_nN (lv' := [(2, .null), (0, .ref (ad 0 0 0 0)), (1, .int (type))]) hx hb dX6_oldFrames_5 rfl hl (by decide) rfl (fun ls hl => ?_)
    refine lv_aload_nN hx hb dX6_oldFrames_6 rfl (lv_at hl 0 rfl) ?_
    refine lv_ifnonnullN hx hb dX6_oldFrames_7 ?_
    refine lv_ldc (v := -2000001) hx hb hown (hts (Cond.constant RX6 41 (-2000001)) (by decide +kernel)) dX6_oldFrames_10 ?_
    exact hx_iret S X hr hlk (Nat.le_of_ble_eq_true rfl) (Nat.le_of_ble_eq_true rfl) ⟨by simp [M_oldFrames, wif_t, wif_f, hC], by simp [M_oldFrames, wif_t, wif_f, hC]; exact ⟨L, f, ad, rfl, hR, rfl⟩⟩ dX6_oldFrames_12

set_option maxRecDepth 100000 in
set_option maxHeartbeats 4000000 in
theorem c_X6_objectVersion (l : Launch) (G : hG) (L : List Nat) (f : Nat → va_E) (ad : xAd) (σ : Sg) (object : Int32) (hI : Inv σ) (hR : RX G L f ad σ)  : hMi l G yX6_objectVersion wsX6_objectVersion ({ frames := 1, cells := 0, slots := 0, locals := 21 } : Room) (va_pl L f) [.ref (ad 0 0 0 0), .int (object)] (fun r w => r = (M_objectVersion σ object).1 ∧ XPo G (ad 0 0 0 0) (M_objectVersion σ object).2 w) := by
  refine hMi.of (cc := cX6_objectVersion) (maxL := 3) (some .int) RX6 rfl (by decide +kernel) rfl (Nat.le_of_ble_eq_true rfl) ?_
  intro p e s m args below meth c S hr hlk X ls hl
  have hx := S.1
  have hb := S.2.1
  have hown := S.2.2.2.1
  have hts := S.2.2.2.2
  have hl : lv_has ls 3 [(0, .ref (ad 0 0 0 0)), (1, .int (object))] := hl
  have hin5 : ∀ w ∈ wsX50, w ∈ wsX6_objectVersion := by decide +kernel
  have hin6 : ∀ w ∈ wsX60, w ∈ wsX6_objectVersion := by decide +kernel
  have hC6 : nC σ ≤ 6 := hI.1.2
  have hO24 : nO σ ≤ 24 := hI.2.1.2
  obtain ⟨m0, f0⟩ := rx0 hR
  obtain ⟨g1, m1, f1, e1⟩ := rx1 hR
  obtain ⟨g2, m2, f2, e2⟩ := rx2 hR
  obtain ⟨g3, m3, f3, e3⟩ := rx3 hR
  refine lv_aload_n hx hb dX6_objectVersion_0 rfl (lv_at hl 0 rfl) ?_
  refine lv_iload_n hx hb dX6_objectVersion_1 rfl (lv_at hl 1 rfl) ?_
  refine hx_Vq (rest := []) S X (c_X6_existingObject l G L f ad σ (object) hI hR) gX6_objectVersion_X6_existingObject rfl (n := 1) (by decide +kernel) rfl ⟨(Nat.le_of_ble_eq_true rfl), (Nat.le_of_ble_eq_true rfl)⟩ (xp_recv (ci := 6) X rfl m0 f0) hl.1 rfl (Nat.le_of_ble_eq_true rfl) dX6_objectVersion_2 ⟨(Nat.le_of_ble_eq_true rfl), (Nat.le_of_ble_eq_true rfl)⟩ (fun r wd1 H locs hp X => ?_)
  obtain ⟨hr2, hs2, rfl⟩ := hp
  by_cases hO : isO σ (object)
  · skip
    have hO' := hO
    obtain ⟨o, ⟨ho, hex⟩, rfl⟩ := hO
    have hco : (nI o).toNatClampNeg = o := nI_clamp (by omega)
    obtain ⟨⟨ho0, ho1⟩, ⟨ho2, ho3⟩, ⟨ho4, ho5⟩, hov⟩ := (hI.2.2.2.2.2 o ho).2 hex
    have hk8 : cnt σ (oC σ o) ≤ 8 := (hI.2.2.1 _ ho1).1.2.2
    have hk1o : 1 ≤ cnt σ (oC σ o) := (hI.2.2.1 _ ho1).1.2.1
    obtain ⟨hm13, hf13⟩ := rx13 hR ho hex
    obtain ⟨g14, hm14, hf14, he14⟩ := rx14 hR ho hex
    obtain ⟨hmo4, hfo4⟩ := rx4 hR ho1
    refine hx_eq (show r = some (ad 13 o 0 0) from hr2 o ho hex rfl) ?_
    refine lv_astore_n (lv' := [(2, .ref (ad 13 o 0 0)), (0, .ref (ad 0 0 0 0)), (1, .int (nI (o)))]) hx hb dX6_objectVersion_5 rfl hl (by decide) rfl (fun ls hl => ?_)
    refine lv_aload_n hx hb dX6_objectVersion_6 rfl (lv_at hl 0 rfl) ?_
    refine lv_ifnonnull (tgt := 13) hx hb dX6_objectVersion_7 (by decide) ?_
    refine lv_aload_n hx hb dX6_objectVersion_13 rfl (lv_at hl 0 rfl) ?_
    refine xp_getN (host := RX6) S X (ci := 5) hm13 hf13 rfl hin5 2 (by decide) (by decide +kernel) rfl dX6_objectVersion_14 ?_
    exact hx_iret S X hr hlk (Nat.le_of_ble_eq_true rfl) (Nat.le_of_ble_eq_true rfl) ⟨by simp [M_objectVersion, wif_t, wif_f, hO', hco], by simp [M_objectVersion, wif_t, wif_f, hO', hco]; exact ⟨L, f, ad, rfl, hR, rfl⟩⟩ dX6_objectVersion_17
  · skip
    refine hx_eq (show r = none from hs2 hO) ?_
    refine lv_astore_nN (lv' := [(2, .null), (0, .ref (ad 0 0 0 0)), (1, .int (object))]) hx hb dX6_objectVersion_5 rfl hl (by decide) rfl (fun ls hl => ?_)
    refine lv_aload_nN hx hb dX6_objectVersion_6 rfl (lv_at hl 0 rfl) ?_
    refine lv_ifnonnullN hx hb dX6_objectVersion_7 ?_
    refine lv_ldc (v := -2000004) hx hb hown (hts (Cond.constant RX6 156 (-2000004)) (by decide +kernel)) dX6_objectVersion_10 ?_
    exact hx_iret S X hr hlk (Nat.le_of_ble_eq_true rfl) (Nat.le_of_ble_eq_true rfl) ⟨by simp [M_objectVersion, wif_t, wif_f, hO], by simp [M_objectVersion, wif_t, wif_f, hO]; exact ⟨L, f, ad, rfl, hR, rfl⟩⟩ dX6_objectVersion_12

set_option maxRecDepth 100000 in
set_option maxHeartbeats 4000000 in
theorem c_X6_conversions (l : Launch) (G : hG) (L : List Nat) (f : Nat → va_E) (ad : xAd) (σ : Sg) (object : Int32) (hI : Inv σ) (hR : RX G L f ad σ)  : hMi l G yX6_conversions wsX6_conversions ({ frames := 1, cells := 0, slots := 0, locals := 21 } : Room) (va_pl L f) [.ref (ad 0 0 0 0), .int (object)] (fun r w => r = (M_conversions σ object).1 ∧ XPo G (ad 0 0 0 0) (M_conversions σ object).2 w) := by
  refine hMi.of (cc := cX6_conversions) (maxL := 3) (some .int) RX6 rfl (by decide +kernel) rfl (Nat.le_of_ble_eq_true rfl) ?_
  intro p e s m args below meth c S hr hlk X ls hl
  have hx := S.1
  have hb := S.2.1
  have hown := S.2.2.2.1
  have hts := S.2.2.2.2
  have hl : lv_has ls 3 [(0, .ref (ad 0 0 0 0)), (1, .int (object))] := hl
  have hin5 : ∀ w ∈ wsX50, w ∈ wsX6_conversions := by decide +kernel
  have hin6 : ∀ w ∈ wsX60, w ∈ wsX6_conversions := by decide +kernel
  have hC6 : nC σ ≤ 6 := hI.1.2
  have hO24 : nO σ ≤ 24 := hI.2.1.2
  obtain ⟨m0, f0⟩ := rx0 hR
  obtain ⟨g1, m1, f1, e1⟩ := rx1 hR
  obtain ⟨g2, m2, f2, e2⟩ := rx2 hR
  obtain ⟨g3, m3, f3, e3⟩ := rx3 hR
  refine lv_aload_n hx hb dX6_conversions_0 rfl (lv_at hl 0 rfl) ?_
  refine lv_iload_n hx hb dX6_conversions_1 rfl (lv_at hl 1 rfl) ?_
  refine hx_Vq (rest := []) S X (c_X6_existingObject l G L f ad σ (object) hI hR) gX6_conversions_X6_existingObject rfl (n := 1) (by decide +kernel) rfl ⟨(Nat.le_of_ble_eq_true rfl), (Nat.le_of_ble_eq_true rfl)⟩ (xp_recv (ci := 6) X rfl m0 f0) hl.1 rfl (Nat.le_of_ble_eq_true rfl) dX6_conversions_2 ⟨(Nat.le_of_ble_eq_true rfl), (Nat.le_of_ble_eq_true rfl)⟩ (fun r wd1 H locs hp X => ?_)
  obtain ⟨hr2, hs2, rfl⟩ := hp
  by_cases hO : isO σ (object)
  · skip
    have hO' := hO
    obtain ⟨o, ⟨ho, hex⟩, rfl⟩ := hO
    have hco : (nI o).toNatClampNeg = o := nI_clamp (by omega)
    obtain ⟨⟨ho0, ho1⟩, ⟨ho2, ho3⟩, ⟨ho4, ho5⟩, hov⟩ := (hI.2.2.2.2.2 o ho).2 hex
    have hk8 : cnt σ (oC σ o) ≤ 8 := (hI.2.2.1 _ ho1).1.2.2
    have hk1o : 1 ≤ cnt σ (oC σ o) := (hI.2.2.1 _ ho1).1.2.1
    obtain ⟨hm13, hf13⟩ := rx13 hR ho hex
    obtain ⟨g14, hm14, hf14, he14⟩ := rx14 hR ho hex
    obtain ⟨hmo4, hfo4⟩ := rx4 hR ho1
    refine hx_eq (show r = some (ad 13 o 0 0) from hr2 o ho hex rfl) ?_
    refine lv_astore_n (lv' := [(2, .ref (ad 13 o 0 0)), (0, .ref (ad 0 0 0 0)), (1, .int (nI (o)))]) hx hb dX6_conversions_5 rfl hl (by decide) rfl (fun ls hl => ?_)
    refine lv_aload_n hx hb dX6_conversions_6 rfl (lv_at hl 0 rfl) ?_
    refine lv_ifnonnull (tgt := 13) hx hb dX6_conversions_7 (by decide) ?_
    refine lv_aload_n hx hb dX6_conversions_13 rfl (lv_at hl 0 rfl) ?_
    refine xp_getN (host := RX6) S X (ci := 5) hm13 hf13 rfl hin5 2 (by decide) (by decide +kernel) rfl dX6_conversions_14 ?_
    refine lv_aload_n hx hb dX6_conversions_17 rfl (lv_at hl 0 rfl) ?_
    refine xp_getN (host := RX6) S X (ci := 5) hm13 hf13 rfl hin5 1 (by decide) (by decide +kernel) rfl dX6_conversions_18 ?_
    refine lv_isub hx hb dX6_conversions_21 ?_
    refine hx_ei (show _ = nI ((oV σ o) - (oF σ o)) from pk_sub (a := oV σ o) (b := oF σ o) (by omega)) ?_
    exact hx_iret S X hr hlk (Nat.le_of_ble_eq_true rfl) (Nat.le_of_ble_eq_true rfl) ⟨by simp [M_conversions, wif_t, wif_f, hO', hco], by simp [M_conversions, wif_t, wif_f, hO', hco]; exact ⟨L, f, ad, rfl, hR, rfl⟩⟩ dX6_conversions_22
  · skip
    refine hx_eq (show r = none from hs2 hO) ?_
    refine lv_astore_nN (lv' := [(2, .null), (0, .ref (ad 0 0 0 0)), (1, .int (object))]) hx hb dX6_conversions_5 rfl hl (by decide) rfl (fun ls hl => ?_)
    refine lv_aload_nN hx hb dX6_conversions_6 rfl (lv_at hl 0 rfl) ?_
    refine lv_ifnonnullN hx hb dX6_conversions_7 ?_
    refine lv_ldc (v := -2000004) hx hb hown (hts (Cond.constant RX6 156 (-2000004)) (by decide +kernel)) dX6_conversions_10 ?_
    exact hx_iret S X hr hlk (Nat.le_of_ble_eq_true rfl) (Nat.le_of_ble_eq_true rfl) ⟨by simp [M_conversions, wif_t, wif_f, hO], by simp [M_conversions, wif_t, wif_f, hO]; exact ⟨L, f, ad, rfl, hR, rfl⟩⟩ dX6_conversions_12

set_option maxRecDepth 100000 in
set_option maxHeartbeats 4000000 in
theorem c_X6_peek (l : Launch) (G : hG) (L : List Nat) (f : Nat → va_E) (ad : xAd) (σ : Sg) (object field : Int32) (hI : Inv σ) (hR : RX G L f ad σ)  : hMi l G yX6_peek wsX6_peek ({ frames := 2, cells := 0, slots := 0, locals := 41 } : Room) (va_pl L f) [.ref (ad 0 0 0 0), .int (object), .int (field)] (fun r w => r = (M_peek σ object field).1 ∧ XPo G (ad 0 0 0 0) (M_peek σ object field).2 w) := by
  refine hMi.of (cc := cX6_peek) (maxL := 4) (some .int) RX6 rfl (by decide +kernel) rfl (Nat.le_of_ble_eq_true rfl) ?_
  intro p e s m args below meth c S hr hlk X ls hl
  have hx := S.1
  have hb := S.2.1
  have hown := S.2.2.2.1
  have hts := S.2.2.2.2
  have hl : lv_has ls 4 [(0, .ref (ad 0 0 0 0)), (1, .int (object)), (2, .int (field))] := hl
  have hin1 : ∀ w ∈ wsX10, w ∈ wsX6_peek := by decide +kernel
  have hin5 : ∀ w ∈ wsX50, w ∈ wsX6_peek := by decide +kernel
  have hin6 : ∀ w ∈ wsX60, w ∈ wsX6_peek := by decide +kernel
  have hC6 : nC σ ≤ 6 := hI.1.2
  have hO24 : nO σ ≤ 24 := hI.2.1.2
  obtain ⟨m0, f0⟩ := rx0 hR
  obtain ⟨g1, m1, f1, e1⟩ := rx1 hR
  obtain ⟨g2, m2, f2, e2⟩ := rx2 hR
  obtain ⟨g3, m3, f3, e3⟩ := rx3 hR
  refine lv_aload_n hx hb dX6_peek_0 rfl (lv_at hl 0 rfl) ?_
  refine lv_iload_n hx hb dX6_peek_1 rfl (lv_at hl 1 rfl) ?_
  refine hx_Vq (rest := []) S X (c_X6_existingObject l G L f ad σ (object) hI hR) gX6_peek_X6_existingObject rfl (n := 1) (by decide +kernel) rfl ⟨(Nat.le_of_ble_eq_true rfl), (Nat.le_of_ble_eq_true rfl)⟩ (xp_recv (ci := 6) X rfl m0 f0) hl.1 rfl (Nat.le_of_ble_eq_true rfl) dX6_peek_2 ⟨(Nat.le_of_ble_eq_true rfl), (Nat.le_of_ble_eq_true rfl)⟩ (fun r wd1 H locs hp X => ?_)
  obtain ⟨hr2, hs2, rfl⟩ := hp
  by_cases hO : isO σ (object)
  · skip
    have hO' := hO
    obtain ⟨o, ⟨ho, hex⟩, rfl⟩ := hO
    have hco : (nI o).toNatClampNeg = o := nI_clamp (by omega)
    obtain ⟨⟨ho0, ho1⟩, ⟨ho2, ho3⟩, ⟨ho4, ho5⟩, hov⟩ := (hI.2.2.2.2.2 o ho).2 hex
    have hk8 : cnt σ (oC σ o) ≤ 8 := (hI.2.2.1 _ ho1).1.2.2
    have hk1o : 1 ≤ cnt σ (oC σ o) := (hI.2.2.1 _ ho1).1.2.1
    obtain ⟨hm13, hf13⟩ := rx13 hR ho hex
    obtain ⟨g14, hm14, hf14, he14⟩ := rx14 hR ho hex
    obtain ⟨hmo4, hfo4⟩ := rx4 hR ho1
    obtain ⟨gf, hm5, hf5, he5⟩ := rx5 hR ho1
    refine hx_eq (show r = some (ad 13 o 0 0) from hr2 o ho hex rfl) ?_
    refine lv_astore_n (lv' := [(3, .ref (ad 13 o 0 0)), (0, .ref (ad 0 0 0 0)), (1, .int (nI (o))), (2, .int (field))]) hx hb dX6_peek_5 rfl hl (by decide) rfl (fun ls hl => ?_)
    refine lv_aload_n hx hb dX6_peek_6 rfl (lv_at hl 0 rfl) ?_
    refine lv_ifnonnull (tgt := 13) hx hb dX6_peek_7 (by decide) ?_
    refine lv_aload_n hx hb dX6_peek_13 rfl (lv_at hl 0 rfl) ?_
    refine xp_getN (host := RX6) S X (ci := 5) hm13 hf13 rfl hin5 0 (by decide) (by decide +kernel) rfl dX6_peek_14 ?_
    refine lv_aload_n hx hb dX6_peek_17 rfl (lv_at hl 0 rfl) ?_
    refine xp_getN (host := RX6) S X (ci := 5) hm13 hf13 rfl hin5 2 (by decide) (by decide +kernel) rfl dX6_peek_18 ?_
    refine hx_Vi (rest := []) S X (c_X1_fieldSet l G L f (ad 4 (oC σ o) 0 0) (ad 5 (oC σ o) 0 0) (ad 6 (oC σ o) 0 0) (cnt σ (oC σ o) - 1) (oV σ o) (nI (oC σ o)) (σ 1 (162 * oC σ o + 1)) (gf) hmo4 hfo4 hm5 hf5 (by omega)) gX6_peek_X1_fieldSet rfl (n := 1) (by decide +kernel) rfl ⟨(Nat.le_of_ble_eq_true rfl), (Nat.le_of_ble_eq_true rfl)⟩ (xp_recv (ci := 1) X rfl hmo4 hfo4) hl.1 rfl (Nat.le_of_ble_eq_true rfl) dX6_peek_21 ⟨(Nat.le_of_ble_eq_true rfl), (Nat.le_of_ble_eq_true rfl)⟩ (fun r wd1 H locs hp X => ?_)
    obtain ⟨rfl, rfl⟩ := hp
    refine hx_ei (show _ = σ 1 (162 * oC σ o + (2 + (oV σ o))) from he5 (oV σ o) (by omega)) ?_
    refine lv_iload_n hx hb dX6_peek_24 rfl (lv_at hl 3 rfl) ?_
    refine hx_Si (rest := []) S X (c_X6_contains l G _ (σ 1 (162 * oC σ o + (2 + (oV σ o)))) (field)) gX6_peek_X6_contains rfl (n := 2) (by decide +kernel) rfl ⟨(Nat.le_of_ble_eq_true rfl), (Nat.le_of_ble_eq_true rfl)⟩ hl.1 rfl (Nat.le_of_ble_eq_true rfl) dX6_peek_25 ⟨(Nat.le_of_ble_eq_true rfl), (Nat.le_of_ble_eq_true rfl)⟩ (fun r wd1 H locs hp X => ?_)
    obtain ⟨hr25, rfl⟩ := hp
    by_cases hF : hasF (σ 1 (162 * oC σ o + (2 + (oV σ o)))) (field)
    · skip
      refine hx_ei (hr25.1 hF) ?_
      have hF' := hF
      obtain ⟨⟨fd, hfd, rfl⟩, hbit⟩ := hF
      have hcf : (nI fd).toNatClampNeg = fd := nI_clamp (by omega)
      refine lv_if_ne (tgt := 34) hx hb dX6_peek_28 (by decide) (fun _ => ?_) (fun c9 => absurd c9 (by decide))
      refine lv_aload_n hx hb dX6_peek_34 rfl (lv_at hl 0 rfl) ?_
      refine lv_iload_n hx hb dX6_peek_35 rfl (lv_at hl 3 rfl) ?_
      obtain ⟨gv, hm15, hf15, he15⟩ := rx15 hR ho hex (v := oV σ o) (by omega)
      refine hx_Vi (rest := []) S X (c_X5_valueOf l G L f (ad 13 o 0 0) (ad 4 (oC σ o) 0 0) (ad 14 o 0 0) (ad 15 o (oV σ o) 0) (oV σ o) (fd) (nI (oF σ o)) (g14) gv hm13 hf13 hm14 hf14 hm15 hf15 (he14 _ (by omega)) (by omega) (by omega)) gX6_peek_X5_valueOf rfl (n := 1) (by decide +kernel) rfl ⟨(Nat.le_of_ble_eq_true rfl), (Nat.le_of_ble_eq_true rfl)⟩ (xp_recv (ci := 5) X rfl hm13 hf13) hl.1 rfl (Nat.le_of_ble_eq_true rfl) dX6_peek_36 ⟨(Nat.le_of_ble_eq_true rfl), (Nat.le_of_ble_eq_true rfl)⟩ (fun r wd1 H locs hp X => ?_)
      obtain ⟨rfl, rfl⟩ := hp
      refine hx_ei (show _ = σ 10 (cel o (oV σ o) (fd)) from he15 (by omega) (by omega) _ (by omega)) ?_
      exact hx_iret S X hr hlk (Nat.le_of_ble_eq_true rfl) (Nat.le_of_ble_eq_true rfl) ⟨by simp [M_peek, wif_t, wif_f, hO', hco, hF', hcf], by simp [M_peek, wif_t, wif_f, hO', hco, hF', hcf]; exact ⟨L, f, ad, rfl, hR, rfl⟩⟩ dX6_peek_39
    · skip
      refine hx_ei (hr25.2 hF) ?_
      refine lv_if_ne (tgt := 34) hx hb dX6_peek_28 (by decide) (fun c9 => absurd (by decide) c9) (fun _ => ?_)
      refine lv_ldc (v := -2000005) hx hb hown (hts (Cond.constant RX6 81 (-2000005)) (by decide +kernel)) dX6_peek_31 ?_
      exact hx_iret S X hr hlk (Nat.le_of_ble_eq_true rfl) (Nat.le_of_ble_eq_true rfl) ⟨by simp [M_peek, wif_t, wif_f, hO', hco, hF], by simp [M_peek, wif_t, wif_f, hO', hco, hF]; exact ⟨L, f, ad, rfl, hR, rfl⟩⟩ dX6_peek_33
  · skip
    refine hx_eq (show r = none from hs2 hO) ?_
    refine lv_astore_nN (lv' := [(3, .null), (0, .ref (ad 0 0 0 0)), (1, .int (object)), (2, .int (field))]) hx hb dX6_peek_5 rfl hl (by decide) rfl (fun ls hl => ?_)
    refine lv_aload_nN hx hb dX6_peek_6 rfl (lv_at hl 0 rfl) ?_
    refine lv_ifnonnullN hx hb dX6_peek_7 ?_
    refine lv_ldc (v := -2000004) hx hb hown (hts (Cond.constant RX6 156 (-2000004)) (by decide +kernel)) dX6_peek_10 ?_
    exact hx_iret S X hr hlk (Nat.le_of_ble_eq_true rfl) (Nat.le_of_ble_eq_true rfl) ⟨by simp [M_peek, wif_t, wif_f, hO], by simp [M_peek, wif_t, wif_f, hO]; exact ⟨L, f, ad, rfl, hR, rfl⟩⟩ dX6_peek_12

set_option maxRecDepth 100000 in
set_option maxHeartbeats 4000000 in
theorem c_X6_pinnedBy (l : Launch) (G : hG) (L : List Nat) (f : Nat → va_E) (ad : xAd) (σ : Sg) (object : Int32) (hI : Inv σ) (hR : RX G L f ad σ)  : hMi l G yX6_pinnedBy wsX6_pinnedBy ({ frames := 3, cells := 0, slots := 0, locals := 86 } : Room) (va_pl L f) [.ref (ad 0 0 0 0), .int (object)] (fun r w => r = (M_pinnedBy σ object).1 ∧ XPo G (ad 0 0 0 0) (M_pinnedBy σ object).2 w) := by
  refine hMi.of (cc := cX6_pinnedBy) (maxL := 3) (some .int) RX6 rfl (by decide +kernel) rfl (Nat.le_of_ble_eq_true rfl) ?_
  intro p e s m args below meth c S hr hlk X ls hl
  have hx := S.1
  have hb := S.2.1
  have hown := S.2.2.2.1
  have hts := S.2.2.2.2
  have hl : lv_has ls 3 [(0, .ref (ad 0 0 0 0)), (1, .int (object))] := hl
  have hin0 : ∀ w ∈ wsX00, w ∈ wsX6_pinnedBy := by decide +kernel
  have hin3 : ∀ w ∈ wsX30, w ∈ wsX6_pinnedBy := by decide +kernel
  have hin6 : ∀ w ∈ wsX60, w ∈ wsX6_pinnedBy := by decide +kernel
  have hC6 : nC σ ≤ 6 := hI.1.2
  have hO24 : nO σ ≤ 24 := hI.2.1.2
  obtain ⟨m0, f0⟩ := rx0 hR
  obtain ⟨g1, m1, f1, e1⟩ := rx1 hR
  obtain ⟨g2, m2, f2, e2⟩ := rx2 hR
  obtain ⟨g3, m3, f3, e3⟩ := rx3 hR
  refine lv_aload_n hx hb dX6_pinnedBy_0 rfl (lv_at hl 0 rfl) ?_
  refine lv_iload_n hx hb dX6_pinnedBy_1 rfl (lv_at hl 1 rfl) ?_
  refine hx_Vq (rest := []) S X (c_X6_existingObject l G L f ad σ (object) hI hR) gX6_pinnedBy_X6_existingObject rfl (n := 1) (by decide +kernel) rfl ⟨(Nat.le_of_ble_eq_true rfl), (Nat.le_of_ble_eq_true rfl)⟩ (xp_recv (ci := 6) X rfl m0 f0) hl.1 rfl (Nat.le_of_ble_eq_true rfl) dX6_pinnedBy_2 ⟨(Nat.le_of_ble_eq_true rfl), (Nat.le_of_ble_eq_true rfl)⟩ (fun r wd1 H locs hp X => ?_)
  obtain ⟨hr2, hs2, rfl⟩ := hp
  by_cases hO : isO σ (object)
  · skip
    have hO' := hO
    obtain ⟨o, ⟨ho, hex⟩, rfl⟩ := hO
    have hco : (nI o).toNatClampNeg = o := nI_clamp (by omega)
    obtain ⟨⟨ho0, ho1⟩, ⟨ho2, ho3⟩, ⟨ho4, ho5⟩, hov⟩ := (hI.2.2.2.2.2 o ho).2 hex
    have hk8 : cnt σ (oC σ o) ≤ 8 := (hI.2.2.1 _ ho1).1.2.2
    have hk1o : 1 ≤ cnt σ (oC σ o) := (hI.2.2.1 _ ho1).1.2.1
    obtain ⟨hm13, hf13⟩ := rx13 hR ho hex
    obtain ⟨g14, hm14, hf14, he14⟩ := rx14 hR ho hex
    obtain ⟨hmo4, hfo4⟩ := rx4 hR ho1
    obtain ⟨gf, hm5, hf5, he5⟩ := rx5 hR ho1
    refine hx_eq (show r = some (ad 13 o 0 0) from hr2 o ho hex rfl) ?_
    refine lv_ifnonnull (tgt := 11) hx hb dX6_pinnedBy_5 (by decide) ?_
    refine lv_aload_n hx hb dX6_pinnedBy_11 rfl (lv_at hl 0 rfl) ?_
    refine lv_iload_n hx hb dX6_pinnedBy_12 rfl (lv_at hl 1 rfl) ?_
    refine hx_Vi (rest := []) S X (c_X6_smallestPin l G L f ad σ (nI (o)) hI hR) gX6_pinnedBy_X6_smallestPin rfl (n := 1) (by decide +kernel) rfl ⟨(Nat.le_of_ble_eq_true rfl), (Nat.le_of_ble_eq_true rfl)⟩ (xp_recv (ci := 6) X rfl m0 f0) hl.1 rfl (Nat.le_of_ble_eq_true rfl) dX6_pinnedBy_13 ⟨(Nat.le_of_ble_eq_true rfl), (Nat.le_of_ble_eq_true rfl)⟩ (fun r wd1 H locs hp X => ?_)
    obtain ⟨rfl, rfl⟩ := hp
    refine lv_istore_n (lv' := [(2, .int (spS σ (nI (o)) 4)), (0, .ref (ad 0 0 0 0)), (1, .int (nI (o)))]) hx hb dX6_pinnedBy_16 rfl hl (by decide) rfl (fun ls hl => ?_)
    refine lv_iload_n hx hb dX6_pinnedBy_17 rfl (lv_at hl 0 rfl) ?_
    refine lv_bipush (v := 8) hx hb dX6_pinnedBy_18 (by decide) ?_
    refine lv_icmp_lt (tgt := 26) hx hb dX6_pinnedBy_20 (by decide) (fun c20 => ?_) (fun c20 => ?_)
    · skip
      refine lv_iload_n hx hb dX6_pinnedBy_26 rfl (lv_at hl 0 rfl) ?_
      exact hx_iret S X hr hlk (Nat.le_of_ble_eq_true rfl) (Nat.le_of_ble_eq_true rfl) ⟨by simp [M_pinnedBy, wif_t, hO']; exact ((spS_pb hI (nI o)).2 (Int32.not_le.mpr c20)).symm, by simp [M_pinnedBy, wif_t, hO']; exact ⟨L, f, ad, rfl, hR, rfl⟩⟩ dX6_pinnedBy_27
    · skip
      refine lv_ldc (v := -2000016) hx hb hown (hts (Cond.constant RX6 168 (-2000016)) (by decide +kernel)) dX6_pinnedBy_23 ?_
      exact hx_iret S X hr hlk (Nat.le_of_ble_eq_true rfl) (Nat.le_of_ble_eq_true rfl) ⟨by simp [M_pinnedBy, wif_t, hO']; exact ((spS_pb hI (nI o)).1 (Int32.not_lt.mp c20)).symm, by simp [M_pinnedBy, wif_t, hO']; exact ⟨L, f, ad, rfl, hR, rfl⟩⟩ dX6_pinnedBy_25
  · skip
    refine hx_eq (show r = none from hs2 hO) ?_
    refine lv_ifnonnullN hx hb dX6_pinnedBy_5 ?_
    refine lv_ldc (v := -2000004) hx hb hown (hts (Cond.constant RX6 156 (-2000004)) (by decide +kernel)) dX6_pinnedBy_8 ?_
    exact hx_iret S X hr hlk (Nat.le_of_ble_eq_true rfl) (Nat.le_of_ble_eq_true rfl) ⟨by simp [M_pinnedBy, wif_t, wif_f, hO], by simp [M_pinnedBy, wif_t, wif_f, hO]; exact ⟨L, f, ad, rfl, hR, rfl⟩⟩ dX6_pinnedBy_10
