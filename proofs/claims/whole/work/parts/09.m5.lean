theorem isB_one {r : Int32} {P : Prop} (h : isB r P) (h0 : ¬ r = 0) : r = 1 := h.1 (isB_ne h h0)
set_option maxRecDepth 100000 in
set_option maxHeartbeats 4000000 in
theorem c_X7_convert (l : Launch) (G : hG) (ad : Nat → Nat) (σ : Sg) (o to : Nat) (ho : o < 24) (h7 : σ 7 o = nI (oC σ o)) (h6 : oC σ o < 6) (hC : InvC σ (oC σ o)) (h8 : σ 8 o = nI (oV σ o)) (hv8 : oV σ o ≤ to) (hto : to < 8) : hMi l G yX7_convert wsX7_convert ({ frames := 3, cells := 0, slots := 0, locals := 72 } : Room) (mW G ad σ) [.ref (ad 0), .int (nI (o)), .int (nI (to))] (fun r w => isB r ((M_convert σ o to).1 = true) ∧ w = mW G ad (M_convert σ o to).2) := by
  refine hMi.of (cc := cX7_convert) (maxL := 5) (some .boolean) RX7 rfl (by decide +kernel) rfl (Nat.le_of_ble_eq_true rfl) ?_
  intro p e s m args below meth c S hr hlk X ls hl
  have hx := S.1
  have hb := S.2.1
  have hown := S.2.2.2.1
  have hts := S.2.2.2.2
  have hl : lv_has ls 5 [(0, .ref (ad 0)), (1, .int (nI (o))), (2, .int (nI (to)))] := hl
  have hin7 : ∀ w ∈ wsX70, w ∈ wsX7_convert := by decide +kernel
  refine lv_iconst (v := 1) hx hb dX7_convert_0 (by decide) ?_
  refine lv_istore_n (lv' := [(3, .int ((1 : Int32))), (0, .ref (ad 0)), (1, .int (nI (o))), (2, .int (nI (to)))]) hx hb dX7_convert_1 rfl hl (by decide) rfl (fun ls hl => ?_)
  refine lv_aload_n hx hb dX7_convert_2 rfl (lv_at hl 1 rfl) ?_
  refine hx_getL S X (ci := 7) 0 (mW_0 _ _ _) rfl hin7 9 (by decide) (by decide +kernel) rfl dX7_convert_3 ?_
  refine lv_iload_n hx hb dX7_convert_6 rfl (lv_at hl 2 rfl) ?_
  refine mx_ld S X 8 (N := 24) (mW_8 _ _ _) (j := o) (by omega) (by decide) (x := nI (oV σ o)) (h8) dX7_convert_7 ?_
  refine lv_iconst (v := 1) hx hb dX7_convert_8 (by decide) ?_
  refine lv_iadd hx hb dX7_convert_9 ?_
  refine hx_ei (show _ = nI (oV σ o + 1) from nI_add (oV σ o) (1)) ?_
  refine lv_istore (lv' := [(4, .int (nI (oV σ o + 1))), (3, .int ((1 : Int32))), (0, .ref (ad 0)), (1, .int (nI (o))), (2, .int (nI (to)))]) hx hb dX7_convert_10 hl (by decide) rfl (fun ls hl => ?_)
  have loop : ∀ (n i : Nat) (y : Int32), i + n = to - oV σ o → isB y ((cvV σ o (oV σ o) i).1 = true) → ∀ (H : Heap) (locs : List Loc) (ls : Array Slot), hH G (va_A (mW G ad σ) s.heap.size) s.heap s (mW G ad (cvV σ o (oV σ o) i).2) H locs → lv_has ls 5 [(0, .ref (ad 0)), (1, .int (nI (o))), (2, .int (nI (to))), (3, .int (y)), (4, .int (nI (oV σ o + 1 + i)))] → W p l e ({ frames := 3, cells := 0, slots := 0, locals := 72 } : Room) s m args below meth c H locs 0 0 (MQ below (va_Qi (fun r w => isB r ((M_convert σ o to).1 = true) ∧ w = mW G ad (M_convert σ o to).2) (hB G (va_A (mW G ad σ) s.heap.size)) (va_A (mW G ad σ) s.heap.size)) args s 0 0 (va_A (mW G ad σ) s.heap.size)) (F0 m 12 ls []) := by
    intro n
    induction n with
    | zero =>
      intro i y hi hv H locs ls X hl
      have hin : i = to - oV σ o := by omega
      refine lv_iload hx hb dX7_convert_12 (lv_at hl 4 rfl) ?_
      refine lv_iload_n hx hb dX7_convert_14 rfl (lv_at hl 2 rfl) ?_
      refine lv_icmp_gt (tgt := 36) hx hb dX7_convert_15 (by decide) (fun _ => ?_) (fun c9 => absurd (nI_lt (a := to) (b := oV σ o + 1 + i) (by omega) (by omega)) c9)
      refine lv_aload_n hx hb dX7_convert_36 rfl (lv_at hl 0 rfl) ?_
      refine hx_getL S X (ci := 7) 0 (mW_0 _ _ _) rfl hin7 9 (by decide) (by decide +kernel) rfl dX7_convert_37 ?_
      refine lv_iload_n hx hb dX7_convert_40 rfl (lv_at hl 1 rfl) ?_
      refine lv_iload_n hx hb dX7_convert_41 rfl (lv_at hl 3 rfl) ?_
      refine lv_if_eq (tgt := 49) hx hb dX7_convert_42 (by decide) (fun c42 => ?_) (fun c42 => ?_)
      · skip
        refine lv_aload_n hx hb dX7_convert_49 rfl (lv_at hl 0 rfl) ?_
        refine hx_getL S X (ci := 7) 0 (mW_0 _ _ _) rfl hin7 9 (by decide) (by decide +kernel) rfl dX7_convert_50 ?_
        refine lv_iload_n hx hb dX7_convert_53 rfl (lv_at hl 1 rfl) ?_
        refine mx_ld S X 8 (N := 24) (mW_8 _ _ _) (j := o) (by omega) (by decide) (x := nI (oV σ o)) ((cvV_k i (by decide) _).trans h8) dX7_convert_54 ?_
        refine mx_st S X 8 (N := 24) (mW_8 _ _ _) (j := o) (by omega) (by decide) (x := nI (oV σ o)) dX7_convert_55 (mW_s8 _ _ _ _ _) (fun H locs X => ?_)
        refine lv_iload_n hx hb dX7_convert_56 rfl (lv_at hl 3 rfl) ?_
        have hq := isB_eq hv c42
        rw [hin] at hq
        exact hx_zret S X hr hlk (Nat.le_of_ble_eq_true rfl) (Nat.le_of_ble_eq_true rfl) (isB_nar hv) ⟨isB_f (by rw [M_convert_f hq]; simp) c42, by rw [M_convert_f hq, hin]⟩ dX7_convert_57
      · skip
        refine lv_iload_n hx hb dX7_convert_45 rfl (lv_at hl 2 rfl) ?_
        refine lv_goto (tgt := 55) hx hb dX7_convert_46 (by decide) ?_
        refine mx_st S X 8 (N := 24) (mW_8 _ _ _) (j := o) (by omega) (by decide) (x := nI (to)) dX7_convert_55 (mW_s8 _ _ _ _ _) (fun H locs X => ?_)
        refine lv_iload_n hx hb dX7_convert_56 rfl (lv_at hl 3 rfl) ?_
        have hq := isB_ne hv c42
        rw [hin] at hq
        exact hx_zret S X hr hlk (Nat.le_of_ble_eq_true rfl) (Nat.le_of_ble_eq_true rfl) (isB_nar hv) ⟨isB_t (by rw [M_convert_t hq]) (isB_one hv c42), by rw [M_convert_t hq, hin]⟩ dX7_convert_57
    | succ n ih =>
      intro i y hi hv H locs ls X hl
      have hin : i < to - oV σ o := by omega
      obtain ⟨hp7, hp6, hpC⟩ := cvV_pre (v := oV σ o) i h7 h6 hC
      refine lv_iload hx hb dX7_convert_12 (lv_at hl 4 rfl) ?_
      refine lv_iload_n hx hb dX7_convert_14 rfl (lv_at hl 2 rfl) ?_
      refine lv_icmp_gt (tgt := 36) hx hb dX7_convert_15 (by decide) (fun c9 => absurd c9 (nI_nlt (a := to) (b := oV σ o + 1 + i) (by omega) (by omega))) (fun _ => ?_)
      refine lv_iload_n hx hb dX7_convert_18 rfl (lv_at hl 3 rfl) ?_
      refine lv_if_eq (tgt := 36) hx hb dX7_convert_19 (by decide) (fun c19 => ?_) (fun c19 => ?_)
      · skip
        refine lv_aload_n hx hb dX7_convert_36 rfl (lv_at hl 0 rfl) ?_
        refine hx_getL S X (ci := 7) 0 (mW_0 _ _ _) rfl hin7 9 (by decide) (by decide +kernel) rfl dX7_convert_37 ?_
        refine lv_iload_n hx hb dX7_convert_40 rfl (lv_at hl 1 rfl) ?_
        refine lv_iload_n hx hb dX7_convert_41 rfl (lv_at hl 3 rfl) ?_
        refine lv_if_eq (tgt := 49) hx hb dX7_convert_42 (by decide) (fun _ => ?_) (fun c9 => absurd c19 c9)
        refine lv_aload_n hx hb dX7_convert_49 rfl (lv_at hl 0 rfl) ?_
        refine hx_getL S X (ci := 7) 0 (mW_0 _ _ _) rfl hin7 9 (by decide) (by decide +kernel) rfl dX7_convert_50 ?_
        refine lv_iload_n hx hb dX7_convert_53 rfl (lv_at hl 1 rfl) ?_
        refine mx_ld S X 8 (N := 24) (mW_8 _ _ _) (j := o) (by omega) (by decide) (x := nI (oV σ o)) ((cvV_k i (by decide) _).trans h8) dX7_convert_54 ?_
        refine mx_st S X 8 (N := 24) (mW_8 _ _ _) (j := o) (by omega) (by decide) (x := nI (oV σ o)) dX7_convert_55 (mW_s8 _ _ _ _ _) (fun H locs X => ?_)
        refine lv_iload_n hx hb dX7_convert_56 rfl (lv_at hl 3 rfl) ?_
        have hq := isB_eq hv c19
        have hz : cvV σ o (oV σ o) (to - oV σ o) = cvV σ o (oV σ o) i := by rw [show to - oV σ o = i + (to - oV σ o - i) by omega]; exact cvV_stop hq _
        have hq2 : ¬ (cvV σ o (oV σ o) (to - oV σ o)).1 = true := by rw [hz]; exact hq
        exact hx_zret S X hr hlk (Nat.le_of_ble_eq_true rfl) (Nat.le_of_ble_eq_true rfl) (isB_nar hv) ⟨isB_f (by rw [M_convert_f hq2]; simp) c19, by rw [M_convert_f hq2, hz]⟩ dX7_convert_57
      · skip
        refine lv_aload_n hx hb dX7_convert_22 rfl (lv_at hl 0 rfl) ?_
        refine lv_iload_n hx hb dX7_convert_23 rfl (lv_at hl 1 rfl) ?_
        refine lv_iload hx hb dX7_convert_24 (lv_at hl 4 rfl) ?_
        refine hx_Vi (rest := []) S X (c_X7_convertOnce l G ad (cvV σ o (oV σ o) i).2 (o) (oV σ o + 1 + i) ho (by omega) hp7 hp6 hpC) gX7_convert_X7_convertOnce rfl (n := 2) (by decide +kernel) rfl ⟨(Nat.le_of_ble_eq_true rfl), (Nat.le_of_ble_eq_true rfl)⟩ (hx_recvL (q0 := 0) (ci := 7) X rfl (mW_0 _ _ _)) hl.1 rfl (Nat.le_of_ble_eq_true rfl) dX7_convert_26 ⟨(Nat.le_of_ble_eq_true rfl), (Nat.le_of_ble_eq_true rfl)⟩ (fun r wd1 H locs hp X => ?_)
        obtain ⟨hr26, rfl⟩ := hp
        refine lv_istore_n (lv' := [(3, .int (r)), (0, .ref (ad 0)), (1, .int (nI (o))), (2, .int (nI (to))), (4, .int (nI (oV σ o + 1 + i)))]) hx hb dX7_convert_29 rfl hl (by decide) rfl (fun ls hl => ?_)
        refine lv_iinc (v := nI (oV σ o + 1 + i + 1)) (lv' := [(4, .int (nI (oV σ o + 1 + i + 1))), (3, .int (r)), (0, .ref (ad 0)), (1, .int (nI (o))), (2, .int (nI (to)))]) hx hb dX7_convert_30 hl (k := 4) rfl (nI_add (oV σ o + 1 + i) 1) (by decide) rfl (fun ls hl => ?_)
        refine lv_goto (tgt := 12) hx hb dX7_convert_33 (by decide) ?_
        have hg : cvV σ o (oV σ o) (i + 1) = M_once (cvV σ o (oV σ o) i).2 o (oV σ o + 1 + i) := cvV_go (isB_ne hv c19)
        exact ih (i + 1) r (by omega) (by rw [hg]; exact hr26) _ _ _ (X.to (by rw [hg])) (lv_sub hl [2, 3, 4, 1, 0] rfl)
  exact loop (to - oV σ o) 0 1 (by omega) (isB_t rfl rfl) _ _ _ X (lv_sub hl [2, 3, 4, 1, 0] rfl)

set_option maxRecDepth 100000 in
set_option maxHeartbeats 4000000 in
theorem c_X7_access (l : Launch) (G : hG) (ad : Nat → Nat) (σ : Sg) (thread object field : Int32) (hI : Inv σ) : hMi l G yX7_access wsX7_access ({ frames := 4, cells := 0, slots := 0, locals := 96 } : Room) (mW G ad σ) [.ref (ad 0), .int (thread), .int (object), .int (field)] (fun r w => r = (M_access σ thread object field).1 ∧ w = mW G ad (M_access σ thread object field).2) := by
  refine hMi.of (cc := cX7_access) (maxL := 6) (some .int) RX7 rfl (by decide +kernel) rfl (Nat.le_of_ble_eq_true rfl) ?_
  intro p e s m args below meth c S hr hlk X ls hl
  have hx := S.1
  have hb := S.2.1
  have hown := S.2.2.2.1
  have hts := S.2.2.2.2
  have hl : lv_has ls 6 [(0, .ref (ad 0)), (1, .int (thread)), (2, .int (object)), (3, .int (field))] := hl
  have hin7 : ∀ w ∈ wsX70, w ∈ wsX7_access := by decide +kernel
  have hC6 : nC σ ≤ 6 := hI.1.2
  have hO24 : nO σ ≤ 24 := hI.2.1.2
  refine lv_iload_n hx hb dX7_access_0 rfl (lv_at hl 1 rfl) ?_
  refine hx_Si (rest := []) S X (c_X7_isThread l G _ (thread)) gX7_access_X7_isThread rfl (n := 1) (by decide +kernel) rfl ⟨(Nat.le_of_ble_eq_true rfl), (Nat.le_of_ble_eq_true rfl)⟩ hl.1 rfl (Nat.le_of_ble_eq_true rfl) dX7_access_1 ⟨(Nat.le_of_ble_eq_true rfl), (Nat.le_of_ble_eq_true rfl)⟩ (fun r wd1 H locs hp X => ?_)
  obtain ⟨hr1, rfl⟩ := hp
  by_cases h1 : isT (thread)
  · skip
    refine hx_ei (hr1.1 h1) ?_
    have h1' := h1
    obtain ⟨th, hth, rfl⟩ := h1
    have hcth : (nI th).toNatClampNeg = th := nI_clamp (by omega)
    obtain ⟨hd0, hd8⟩ := hI.2.2.2.1 th hth
    refine lv_if_ne (tgt := 10) hx hb dX7_access_4 (by decide) (fun _ => ?_) (fun c9 => absurd c9 (by decide))
    refine lv_aload_n hx hb dX7_access_10 rfl (lv_at hl 0 rfl) ?_
    refine hx_getL S X (ci := 7) 0 (mW_0 _ _ _) rfl hin7 2 (by decide) (by decide +kernel) rfl dX7_access_11 ?_
    refine lv_iload_n hx hb dX7_access_14 rfl (lv_at hl 1 rfl) ?_
    refine mx_ld S X 2 (N := 4) (mW_2 _ _ _) (j := th) (by omega) (by decide) (x := nI (dN σ th)) (hd0) dX7_access_15 ?_
    refine lv_if_ne (tgt := 22) hx hb dX7_access_16 (by decide) (fun c16 => ?_) (fun c16 => ?_)
    · skip
      have c16 := (not_congr (nI_eq (a := dN σ th) (b := 0) (by omega) (by omega))).mp c16
      refine lv_aload_n hx hb dX7_access_22 rfl (lv_at hl 0 rfl) ?_
      refine lv_iload_n hx hb dX7_access_23 rfl (lv_at hl 2 rfl) ?_
      refine hx_Vi (rest := []) S X (c_X7_isObject l G ad σ (object) hI) gX7_access_X7_isObject rfl (n := 1) (by decide +kernel) rfl ⟨(Nat.le_of_ble_eq_true rfl), (Nat.le_of_ble_eq_true rfl)⟩ (hx_recvL (q0 := 0) (ci := 7) X rfl (mW_0 _ _ _)) hl.1 rfl (Nat.le_of_ble_eq_true rfl) dX7_access_24 ⟨(Nat.le_of_ble_eq_true rfl), (Nat.le_of_ble_eq_true rfl)⟩ (fun r wd1 H locs hp X => ?_)
      obtain ⟨hr24, rfl⟩ := hp
      by_cases h24 : isO σ (object)
      · skip
        refine hx_ei (hr24.1 h24) ?_
        have h24' := h24
        obtain ⟨o, ⟨ho, hex⟩, rfl⟩ := h24
        have hco : (nI o).toNatClampNeg = o := nI_clamp (by omega)
        obtain ⟨⟨ho0, ho1⟩, ⟨ho2, ho3⟩, ⟨ho4, ho5⟩, hov⟩ := (hI.2.2.2.2.2 o ho).2 hex
        have hk8 : cnt σ (oC σ o) ≤ 8 := (hI.2.2.1 _ ho1).1.2.2
        have hfr : topF σ th < 32 := topF_lt hth hd8
        obtain ⟨⟨g1, g2⟩, ⟨g3, g4⟩, g5⟩ := hI.2.2.2.2.1 (topF σ th) hfr (topF_liv c16 hd8)
        have gk8 : cnt σ (fC σ (topF σ th)) ≤ 8 := (hI.2.2.1 _ g2).1.2.2
        refine lv_if_ne (tgt := 33) hx hb dX7_access_27 (by decide) (fun _ => ?_) (fun c9 => absurd c9 (by decide))
        refine lv_bipush (v := 8) hx hb dX7_access_33 (by decide) ?_
        refine lv_iload_n hx hb dX7_access_35 rfl (lv_at hl 1 rfl) ?_
        refine lv_imul hx hb dX7_access_36 ?_
        refine hx_ei (show _ = nI ((8) * (th)) from pk_mul (8) (th)) ?_
        refine lv_aload_n hx hb dX7_access_37 rfl (lv_at hl 0 rfl) ?_
        refine hx_getL S X (ci := 7) 0 (mW_0 _ _ _) rfl hin7 2 (by decide) (by decide +kernel) rfl dX7_access_38 ?_
        refine lv_iload_n hx hb dX7_access_41 rfl (lv_at hl 1 rfl) ?_
        refine mx_ld S X 2 (N := 4) (mW_2 _ _ _) (j := th) (by omega) (by decide) (x := nI (dN σ th)) (hd0) dX7_access_42 ?_
        refine lv_iadd hx hb dX7_access_43 ?_
        refine hx_ei (show _ = nI ((8) * (th) + dN σ th) from nI_add ((8) * (th)) (dN σ th)) ?_
        refine lv_iconst (v := 1) hx hb dX7_access_44 (by decide) ?_
        refine lv_isub hx hb dX7_access_45 ?_
        refine hx_ei (show _ = nI (topF σ th) from by rw [show (1 : Int32) = nI 1 from rfl, pk_sub (a := 8 * th + dN σ th) (b := 1) (by omega)]; congr 1; unfold topF; omega) ?_
        refine lv_istore (lv' := [(4, .int (nI (topF σ th))), (0, .ref (ad 0)), (1, .int (nI (th))), (2, .int (nI (o))), (3, .int (field))]) hx hb dX7_access_46 hl (by decide) rfl (fun ls hl => ?_)
        refine lv_aload_n hx hb dX7_access_48 rfl (lv_at hl 1 rfl) ?_
        refine hx_getL S X (ci := 7) 0 (mW_0 _ _ _) rfl hin7 4 (by decide) (by decide +kernel) rfl dX7_access_49 ?_
        refine lv_iload hx hb dX7_access_52 (lv_at hl 0 rfl) ?_
        refine mx_ld S X 4 (N := 32) (mW_4 _ _ _) (j := topF σ th) (by omega) (by decide) (x := nI (fV σ (topF σ th))) (g3) dX7_access_54 ?_
        refine lv_istore (lv' := [(5, .int (nI (fV σ (topF σ th)))), (4, .int (nI (topF σ th))), (0, .ref (ad 0)), (1, .int (nI (th))), (2, .int (nI (o))), (3, .int (field))]) hx hb dX7_access_55 hl (by decide) rfl (fun ls hl => ?_)
        refine lv_aload_n hx hb dX7_access_57 rfl (lv_at hl 2 rfl) ?_
        refine hx_getL S X (ci := 7) 0 (mW_0 _ _ _) rfl hin7 3 (by decide) (by decide +kernel) rfl dX7_access_58 ?_
        refine lv_iload hx hb dX7_access_61 (lv_at hl 1 rfl) ?_
        refine mx_ld S X 3 (N := 32) (mW_3 _ _ _) (j := topF σ th) (by omega) (by decide) (x := nI (fC σ (topF σ th))) (g1) dX7_access_63 ?_
        refine lv_aload_n hx hb dX7_access_64 rfl (lv_at hl 2 rfl) ?_
        refine hx_getL S X (ci := 7) 0 (mW_0 _ _ _) rfl hin7 8 (by decide) (by decide +kernel) rfl dX7_access_65 ?_
        refine lv_iload_n hx hb dX7_access_68 rfl (lv_at hl 4 rfl) ?_
        refine mx_ld S X 7 (N := 24) (mW_7 _ _ _) (j := o) (by omega) (by decide) (x := nI (oC σ o)) (ho0) dX7_access_69 ?_
        refine lv_icmp_eq (tgt := 76) hx hb dX7_access_70 (by decide) (fun c70 => ?_) (fun c70 => ?_)
        · skip
          have c70 := (nI_eq (a := fC σ (topF σ th)) (b := oC σ o) (by omega) (by omega)).mp c70
          refine lv_aload_n hx hb dX7_access_76 rfl (lv_at hl 2 rfl) ?_
          refine lv_aload_n hx hb dX7_access_77 rfl (lv_at hl 2 rfl) ?_
          refine hx_getL S X (ci := 7) 0 (mW_0 _ _ _) rfl hin7 8 (by decide) (by decide +kernel) rfl dX7_access_78 ?_
          refine lv_iload_n hx hb dX7_access_81 rfl (lv_at hl 4 rfl) ?_
          refine mx_ld S X 7 (N := 24) (mW_7 _ _ _) (j := o) (by omega) (by decide) (x := nI (oC σ o)) (ho0) dX7_access_82 ?_
          refine lv_iconst (v := 2) hx hb dX7_access_83 (by decide) ?_
          refine lv_iload hx hb dX7_access_84 (lv_at hl 0 rfl) ?_
          refine lv_iadd hx hb dX7_access_86 ?_
          refine hx_ei (show _ = nI (2 + fV σ (topF σ th)) from nI_add (2) (fV σ (topF σ th))) ?_
          refine hx_Vi (rest := []) S X (c_X7_of l G ad σ (oC σ o) (2 + fV σ (topF σ th)) (by omega)) gX7_access_X7_of rfl (n := 2) (by decide +kernel) rfl ⟨(Nat.le_of_ble_eq_true rfl), (Nat.le_of_ble_eq_true rfl)⟩ (hx_recvL (q0 := 0) (ci := 7) X rfl (mW_0 _ _ _)) hl.1 rfl (Nat.le_of_ble_eq_true rfl) dX7_access_87 ⟨(Nat.le_of_ble_eq_true rfl), (Nat.le_of_ble_eq_true rfl)⟩ (fun r wd1 H locs hp X => ?_)
          obtain ⟨rfl, rfl⟩ := hp
          refine hx_ei (show _ = σ 1 (162 * (oC σ o) + (2 + fV σ (topF σ th))) from rfl) ?_
          refine lv_iload_n hx hb dX7_access_90 rfl (lv_at hl 5 rfl) ?_
          refine hx_Si (rest := []) S X (c_X7_has l G _ (σ 1 (162 * (oC σ o) + (2 + fV σ (topF σ th)))) (field)) gX7_access_X7_has rfl (n := 2) (by decide +kernel) rfl ⟨(Nat.le_of_ble_eq_true rfl), (Nat.le_of_ble_eq_true rfl)⟩ hl.1 rfl (Nat.le_of_ble_eq_true rfl) dX7_access_91 ⟨(Nat.le_of_ble_eq_true rfl), (Nat.le_of_ble_eq_true rfl)⟩ (fun r wd1 H locs hp X => ?_)
          obtain ⟨hr91, rfl⟩ := hp
          by_cases h91 : hasF (σ 1 (162 * (oC σ o) + (2 + fV σ (topF σ th)))) (field)
          · skip
            refine hx_ei (hr91.1 h91) ?_
            refine lv_if_ne (tgt := 100) hx hb dX7_access_94 (by decide) (fun _ => ?_) (fun c9 => absurd c9 (by decide))
            refine lv_aload_n hx hb dX7_access_100 rfl (lv_at hl 2 rfl) ?_
            refine hx_getL S X (ci := 7) 0 (mW_0 _ _ _) rfl hin7 9 (by decide) (by decide +kernel) rfl dX7_access_101 ?_
            refine lv_iload_n hx hb dX7_access_104 rfl (lv_at hl 4 rfl) ?_
            refine mx_ld S X 8 (N := 24) (mW_8 _ _ _) (j := o) (by omega) (by decide) (x := nI (oV σ o)) (ho2) dX7_access_105 ?_
            refine lv_iload hx hb dX7_access_106 (lv_at hl 0 rfl) ?_
            refine lv_icmp_le (tgt := 114) hx hb dX7_access_108 (by decide) (fun c108 => ?_) (fun c108 => ?_)
            · skip
              have c108 := (nI_leI (a := oV σ o) (b := fV σ (topF σ th)) (by omega) (by omega)).mp c108
              have c108a : ¬ fV σ (topF σ th) < oV σ o := by omega
              refine lv_aload_n hx hb dX7_access_114 rfl (lv_at hl 2 rfl) ?_
              refine hx_getL S X (ci := 7) 0 (mW_0 _ _ _) rfl hin7 9 (by decide) (by decide +kernel) rfl dX7_access_115 ?_
              refine lv_iload_n hx hb dX7_access_118 rfl (lv_at hl 4 rfl) ?_
              refine mx_ld S X 8 (N := 24) (mW_8 _ _ _) (j := o) (by omega) (by decide) (x := nI (oV σ o)) (ho2) dX7_access_119 ?_
              refine lv_iload hx hb dX7_access_120 (lv_at hl 0 rfl) ?_
              refine lv_icmp_ge (tgt := 138) hx hb dX7_access_122 (by decide) (fun c122 => ?_) (fun c122 => ?_)
              · skip
                have c122 := (nI_leI (a := fV σ (topF σ th)) (b := oV σ o) (by omega) (by omega)).mp c122
                have c122a : ¬ oV σ o < fV σ (topF σ th) := by omega
                refine lv_aload_n hx hb dX7_access_138 rfl (lv_at hl 2 rfl) ?_
                refine hx_getL S X (ci := 7) 0 (mW_0 _ _ _) rfl hin7 9 (by decide) (by decide +kernel) rfl dX7_access_139 ?_
                refine lv_iload_n hx hb dX7_access_142 rfl (lv_at hl 4 rfl) ?_
                refine mx_ld S X 8 (N := 24) (mW_8 _ _ _) (j := o) (by omega) (by decide) (x := nI (oV σ o)) (ho2) dX7_access_143 ?_
                refine lv_iload hx hb dX7_access_144 (lv_at hl 0 rfl) ?_
                refine lv_icmp_ge (tgt := 162) hx hb dX7_access_146 (by decide) (fun _ => ?_) (fun c9 => absurd ((nI_leI (a := fV σ (topF σ th)) (b := oV σ o) (by omega) (by omega)).mpr (by omega)) c9)
                refine lv_aload_n hx hb dX7_access_162 rfl (lv_at hl 2 rfl) ?_
                refine hx_getL S X (ci := 7) 0 (mW_0 _ _ _) rfl hin7 5 (by decide) (by decide +kernel) rfl dX7_access_163 ?_
                refine lv_iload hx hb dX7_access_166 (lv_at hl 1 rfl) ?_
                refine lv_dup2_11 hx hb dX7_access_168 rfl rfl ?_
                refine mx_ld S X 5 (N := 32) (mW_5 _ _ _) (j := topF σ th) (by omega) (by decide) (x := σ 5 (topF σ th)) (rfl) dX7_access_169 ?_
                refine lv_iconst (v := 1) hx hb dX7_access_170 (by decide) ?_
                refine lv_iload_n hx hb dX7_access_171 rfl (lv_at hl 4 rfl) ?_
                refine lv_ishl hx hb dX7_access_172 ?_
                refine lv_ior hx hb dX7_access_173 ?_
                refine mx_st S X 5 (N := 32) (mW_5 _ _ _) (j := topF σ th) (by omega) (by decide) (x := (σ 5 (topF σ th)) ||| (((1 : Int32)) <<< ((nI (o)) &&& 31))) dX7_access_174 (mW_s5 _ _ _ _ _) (fun H locs X => ?_)
                refine lv_iconst (v := 0) hx hb dX7_access_175 (by decide) ?_
                exact hx_iret S X hr hlk (Nat.le_of_ble_eq_true rfl) (Nat.le_of_ble_eq_true rfl) (by simp [M_access, M_acc, pinS, wif_t, wif_f, h1', hcth, c16, h24', hco, c70, h91, c108a, c122a]) dX7_access_176
              · skip
                have c122 := (not_congr (nI_leI (a := fV σ (topF σ th)) (b := oV σ o) (by omega) (by omega))).mp c122
                have c122a : oV σ o < fV σ (topF σ th) := by omega
                refine lv_aload_n hx hb dX7_access_125 rfl (lv_at hl 2 rfl) ?_
                refine lv_iload_n hx hb dX7_access_126 rfl (lv_at hl 4 rfl) ?_
                refine lv_iload hx hb dX7_access_127 (lv_at hl 0 rfl) ?_
                refine hx_Vi (rest := []) S X (c_X7_isHeldBelow l G ad σ (nI (o)) (nI (fV σ (topF σ th))) hI) gX7_access_X7_isHeldBelow rfl (n := 2) (by decide +kernel) rfl ⟨(Nat.le_of_ble_eq_true rfl), (Nat.le_of_ble_eq_true rfl)⟩ (hx_recvL (q0 := 0) (ci := 7) X rfl (mW_0 _ _ _)) hl.1 rfl (Nat.le_of_ble_eq_true rfl) dX7_access_129 ⟨(Nat.le_of_ble_eq_true rfl), (Nat.le_of_ble_eq_true rfl)⟩ (fun r wd1 H locs hp X => ?_)
                obtain ⟨hr129, rfl⟩ := hp
                by_cases h129 : ∃ j, j < 32 ∧ helP σ (nI (o)) (nI (fV σ (topF σ th))) j
                · skip
                  refine hx_ei (hr129.1 h129) ?_
                  refine lv_if_eq (tgt := 138) hx hb dX7_access_132 (by decide) (fun c9 => absurd c9 (by decide)) (fun _ => ?_)
                  refine lv_ldc (v := -2000013) hx hb hown (hts (Cond.constant RX7 130 (-2000013)) (by decide +kernel)) dX7_access_135 ?_
                  exact hx_iret S X hr hlk (Nat.le_of_ble_eq_true rfl) (Nat.le_of_ble_eq_true rfl) (by simp [M_access, M_acc, pinS, wif_t, wif_f, h1', hcth, c16, h24', hco, c70, h91, c108a, c122a, h129]) dX7_access_137
                · skip
                  refine hx_ei (hr129.2 h129) ?_
                  refine lv_if_eq (tgt := 138) hx hb dX7_access_132 (by decide) (fun _ => ?_) (fun c9 => absurd (by decide) c9)
                  refine lv_aload_n hx hb dX7_access_138 rfl (lv_at hl 2 rfl) ?_
                  refine hx_getL S X (ci := 7) 0 (mW_0 _ _ _) rfl hin7 9 (by decide) (by decide +kernel) rfl dX7_access_139 ?_
                  refine lv_iload_n hx hb dX7_access_142 rfl (lv_at hl 4 rfl) ?_
                  refine mx_ld S X 8 (N := 24) (mW_8 _ _ _) (j := o) (by omega) (by decide) (x := nI (oV σ o)) (ho2) dX7_access_143 ?_
                  refine lv_iload hx hb dX7_access_144 (lv_at hl 0 rfl) ?_
                  refine lv_icmp_ge (tgt := 162) hx hb dX7_access_146 (by decide) (fun c9 => absurd c9 (fun q => absurd ((nI_leI (a := fV σ (topF σ th)) (b := oV σ o) (by omega) (by omega)).mp q) (by omega))) (fun _ => ?_)
                  refine lv_aload_n hx hb dX7_access_149 rfl (lv_at hl 2 rfl) ?_
                  refine lv_iload_n hx hb dX7_access_150 rfl (lv_at hl 4 rfl) ?_
                  refine lv_iload hx hb dX7_access_151 (lv_at hl 0 rfl) ?_
                  refine hx_Vi (rest := []) S X (c_X7_convert l G ad σ (o) (fV σ (topF σ th)) (by omega) ho0 (by omega) (hI.2.2.1 _ ho1) ho2 (by omega) (by omega)) gX7_access_X7_convert rfl (n := 2) (by decide +kernel) rfl ⟨(Nat.le_of_ble_eq_true rfl), (Nat.le_of_ble_eq_true rfl)⟩ (hx_recvL (q0 := 0) (ci := 7) X rfl (mW_0 _ _ _)) hl.1 rfl (Nat.le_of_ble_eq_true rfl) dX7_access_153 ⟨(Nat.le_of_ble_eq_true rfl), (Nat.le_of_ble_eq_true rfl)⟩ (fun r wd1 H locs hp X => ?_)
                  obtain ⟨hr153, rfl⟩ := hp
                  by_cases h153 : (M_convert σ (o) (fV σ (topF σ th))).1 = true
                  · skip
                    refine hx_ei (hr153.1 h153) ?_
                    refine lv_if_ne (tgt := 162) hx hb dX7_access_156 (by decide) (fun _ => ?_) (fun c9 => absurd c9 (by decide))
                    refine lv_aload_n hx hb dX7_access_162 rfl (lv_at hl 2 rfl) ?_
                    refine hx_getL S X (ci := 7) 0 (mW_0 _ _ _) rfl hin7 5 (by decide) (by decide +kernel) rfl dX7_access_163 ?_
                    refine lv_iload hx hb dX7_access_166 (lv_at hl 1 rfl) ?_
                    refine lv_dup2_11 hx hb dX7_access_168 rfl rfl ?_
                    refine mx_ld S X 5 (N := 32) (mW_5 _ _ _) (j := topF σ th) (by omega) (by decide) (x := (M_convert σ (o) (fV σ (topF σ th))).2 5 (topF σ th)) (rfl) dX7_access_169 ?_
                    refine lv_iconst (v := 1) hx hb dX7_access_170 (by decide) ?_
                    refine lv_iload_n hx hb dX7_access_171 rfl (lv_at hl 4 rfl) ?_
                    refine lv_ishl hx hb dX7_access_172 ?_
                    refine lv_ior hx hb dX7_access_173 ?_
                    refine mx_st S X 5 (N := 32) (mW_5 _ _ _) (j := topF σ th) (by omega) (by decide) (x := ((M_convert σ (o) (fV σ (topF σ th))).2 5 (topF σ th)) ||| (((1 : Int32)) <<< ((nI (o)) &&& 31))) dX7_access_174 (mW_s5 _ _ _ _ _) (fun H locs X => ?_)
                    refine lv_iconst (v := 0) hx hb dX7_access_175 (by decide) ?_
                    exact hx_iret S X hr hlk (Nat.le_of_ble_eq_true rfl) (Nat.le_of_ble_eq_true rfl) (by simp [M_access, M_acc, pinS, wif_t, wif_f, h1', hcth, c16, h24', hco, c70, h91, c108a, c122a, h129, h153]) dX7_access_176
                  · skip
                    refine hx_ei (hr153.2 h153) ?_
                    refine lv_if_ne (tgt := 162) hx hb dX7_access_156 (by decide) (fun c9 => absurd (by decide) c9) (fun _ => ?_)
                    refine lv_ldc (v := -2000014) hx hb hown (hts (Cond.constant RX7 134 (-2000014)) (by decide +kernel)) dX7_access_159 ?_
                    exact hx_iret S X hr hlk (Nat.le_of_ble_eq_true rfl) (Nat.le_of_ble_eq_true rfl) (by simp [M_access, M_acc, pinS, wif_t, wif_f, h1', hcth, c16, h24', hco, c70, h91, c108a, c122a, h129, h153]) dX7_access_161
            · skip
              have c108 := (not_congr (nI_leI (a := oV σ o) (b := fV σ (topF σ th)) (by omega) (by omega))).mp c108
              have c108a : fV σ (topF σ th) < oV σ o := by omega
              refine lv_ldc (v := -2000012) hx hb hown (hts (Cond.constant RX7 126 (-2000012)) (by decide +kernel)) dX7_access_111 ?_
              exact hx_iret S X hr hlk (Nat.le_of_ble_eq_true rfl) (Nat.le_of_ble_eq_true rfl) (by simp [M_access, M_acc, pinS, wif_t, wif_f, h1', hcth, c16, h24', hco, c70, h91, c108a]) dX7_access_113
          · skip
            refine hx_ei (hr91.2 h91) ?_
            refine lv_if_ne (tgt := 100) hx hb dX7_access_94 (by decide) (fun c9 => absurd (by decide) c9) (fun _ => ?_)
            refine lv_ldc (v := -2000005) hx hb hown (hts (Cond.constant RX7 86 (-2000005)) (by decide +kernel)) dX7_access_97 ?_
            exact hx_iret S X hr hlk (Nat.le_of_ble_eq_true rfl) (Nat.le_of_ble_eq_true rfl) (by simp [M_access, M_acc, pinS, wif_t, wif_f, h1', hcth, c16, h24', hco, c70, h91]) dX7_access_99
        · skip
          have c70 := (not_congr (nI_eq (a := fC σ (topF σ th)) (b := oC σ o) (by omega) (by omega))).mp c70
          refine lv_ldc (v := -2000011) hx hb hown (hts (Cond.constant RX7 125 (-2000011)) (by decide +kernel)) dX7_access_73 ?_
          exact hx_iret S X hr hlk (Nat.le_of_ble_eq_true rfl) (Nat.le_of_ble_eq_true rfl) (by simp [M_access, M_acc, pinS, wif_t, wif_f, h1', hcth, c16, h24', hco, c70]) dX7_access_75
      · skip
        refine hx_ei (hr24.2 h24) ?_
        refine lv_if_ne (tgt := 33) hx hb dX7_access_27 (by decide) (fun c9 => absurd (by decide) c9) (fun _ => ?_)
        refine lv_ldc (v := -2000004) hx hb hown (hts (Cond.constant RX7 124 (-2000004)) (by decide +kernel)) dX7_access_30 ?_
        exact hx_iret S X hr hlk (Nat.le_of_ble_eq_true rfl) (Nat.le_of_ble_eq_true rfl) (by simp [M_access, M_acc, pinS, wif_t, wif_f, h1', hcth, c16, h24]) dX7_access_32
    · skip
      have c16 := (nI_eq (a := dN σ th) (b := 0) (by omega) (by omega)).mp c16
      refine lv_ldc (v := -2000006) hx hb hown (hts (Cond.constant RX7 107 (-2000006)) (by decide +kernel)) dX7_access_19 ?_
      exact hx_iret S X hr hlk (Nat.le_of_ble_eq_true rfl) (Nat.le_of_ble_eq_true rfl) (by simp [M_access, M_acc, pinS, wif_t, wif_f, h1', hcth, c16]) dX7_access_21
  · skip
    refine hx_ei (hr1.2 h1) ?_
    refine lv_if_ne (tgt := 10) hx hb dX7_access_4 (by decide) (fun c9 => absurd (by decide) c9) (fun _ => ?_)
    refine lv_ldc (v := -2000003) hx hb hown (hts (Cond.constant RX7 106 (-2000003)) (by decide +kernel)) dX7_access_7 ?_
    exact hx_iret S X hr hlk (Nat.le_of_ble_eq_true rfl) (Nat.le_of_ble_eq_true rfl) (by simp [M_access, M_acc, pinS, wif_t, wif_f, h1]) dX7_access_9

set_option maxRecDepth 100000 in
set_option maxHeartbeats 4000000 in
theorem c_X7_read (l : Launch) (G : hG) (ad : Nat → Nat) (σ : Sg) (thread object field : Int32) (hI : Inv σ) : hMi l G yX7_read wsX7_read ({ frames := 5, cells := 0, slots := 0, locals := 121 } : Room) (mW G ad σ) [.ref (ad 0), .int (thread), .int (object), .int (field)] (fun r w => r = (M_read σ thread object field).1 ∧ w = mW G ad (M_read σ thread object field).2) := by
  refine hMi.of (cc := cX7_read) (maxL := 5) (some .int) RX7 rfl (by decide +kernel) rfl (Nat.le_of_ble_eq_true rfl) ?_
  intro p e s m args below meth c S hr hlk X ls hl
  have hx := S.1
  have hb := S.2.1
  have hown := S.2.2.2.1
  have hts := S.2.2.2.2
  have hl : lv_has ls 5 [(0, .ref (ad 0)), (1, .int (thread)), (2, .int (object)), (3, .int (field))] := hl
  have hin7 : ∀ w ∈ wsX70, w ∈ wsX7_read := by decide +kernel
  have hC6 : nC σ ≤ 6 := hI.1.2
  have hO24 : nO σ ≤ 24 := hI.2.1.2
  refine lv_aload_n hx hb dX7_read_0 rfl (lv_at hl 0 rfl) ?_
  refine lv_iload_n hx hb dX7_read_1 rfl (lv_at hl 1 rfl) ?_
  refine lv_iload_n hx hb dX7_read_2 rfl (lv_at hl 2 rfl) ?_
  refine lv_iload_n hx hb dX7_read_3 rfl (lv_at hl 3 rfl) ?_
  refine hx_Vi (rest := []) S X (c_X7_access l G ad σ (thread) (object) (field) hI) gX7_read_X7_access rfl (n := 3) (by decide +kernel) rfl ⟨(Nat.le_of_ble_eq_true rfl), (Nat.le_of_ble_eq_true rfl)⟩ (hx_recvL (q0 := 0) (ci := 7) X rfl (mW_0 _ _ _)) hl.1 rfl (Nat.le_of_ble_eq_true rfl) dX7_read_4 ⟨(Nat.le_of_ble_eq_true rfl), (Nat.le_of_ble_eq_true rfl)⟩ (fun r wd1 H locs hp X => ?_)
  obtain ⟨rfl, rfl⟩ := hp
  refine lv_istore (lv' := [(4, .int ((M_access σ (thread) (object) (field)).1)), (0, .ref (ad 0)), (1, .int (thread)), (2, .int (object)), (3, .int (field))]) hx hb dX7_read_7 hl (by decide) rfl (fun ls hl => ?_)
  refine lv_iload hx hb dX7_read_9 (lv_at hl 0 rfl) ?_
  refine lv_if_eq (tgt := 19) hx hb dX7_read_11 (by decide) (fun c11 => ?_) (fun c11 => ?_)
  · skip
    have c11' := c11
    obtain ⟨th, o, f, ⟨hth, rfl⟩, ⟨ho, hex, rfl⟩, ⟨hf, rfl⟩, hd, he, hh, h8, h9⟩ := acc_ok hI c11
    have hco : (nI o).toNatClampNeg = o := nI_clamp (by omega)
    have hcf : (nI f).toNatClampNeg = f := nI_clamp (by omega)
    have hov : oV (M_access σ (nI th) (nI o) (nI f)).2 o = fV σ (topF σ th) := by unfold oV; rw [h8]; exact nI_clamp (by omega)
    have h8 : (M_access σ (nI th) (nI o) (nI f)).2 8 o = nI (oV (M_access σ (nI th) (nI o) (nI f)).2 o) := by rw [hov]; exact h8
    have hov9 : oV (M_access σ (nI th) (nI o) (nI f)).2 o < 8 := by omega
    refine lv_aload_n hx hb dX7_read_19 rfl (lv_at hl 1 rfl) ?_
    refine hx_getL S X (ci := 7) 0 (mW_0 _ _ _) rfl hin7 11 (by decide) (by decide +kernel) rfl dX7_read_20 ?_
    refine lv_iload_n hx hb dX7_read_23 rfl (lv_at hl 3 rfl) ?_
    refine lv_aload_n hx hb dX7_read_24 rfl (lv_at hl 1 rfl) ?_
    refine hx_getL S X (ci := 7) 0 (mW_0 _ _ _) rfl hin7 9 (by decide) (by decide +kernel) rfl dX7_read_25 ?_
    refine lv_iload_n hx hb dX7_read_28 rfl (lv_at hl 3 rfl) ?_
    refine mx_ld S X 8 (N := 24) (mW_8 _ _ _) (j := o) (by omega) (by decide) (x := nI (oV (M_access σ (nI th) (nI o) (nI f)).2 o)) (h8) dX7_read_29 ?_
    refine lv_iload_n hx hb dX7_read_30 rfl (lv_at hl 4 rfl) ?_
    refine hx_Si (rest := [.ref (ad 10)]) S X (c_X7_cell l G _ (o) (oV (M_access σ (nI th) (nI o) (nI f)).2 o) (f)) gX7_read_X7_cell rfl (n := 3) (by decide +kernel) rfl ⟨(Nat.le_of_ble_eq_true rfl), (Nat.le_of_ble_eq_true rfl)⟩ hl.1 rfl (Nat.le_of_ble_eq_true rfl) dX7_read_31 ⟨(Nat.le_of_ble_eq_true rfl), (Nat.le_of_ble_eq_true rfl)⟩ (fun r wd1 H locs hp X => ?_)
    obtain ⟨rfl, rfl⟩ := hp
    refine mx_ld S X 10 (N := 1536) (mW_10 _ _ _) (j := cel (o) (oV (M_access σ (nI th) (nI o) (nI f)).2 o) (f)) (by unfold cel; omega) (by decide) (x := (M_access σ (nI th) (nI o) (nI f)).2 10 (cel (o) (oV (M_access σ (nI th) (nI o) (nI f)).2 o) (f))) (rfl) dX7_read_34 ?_
    exact hx_iret S X hr hlk (Nat.le_of_ble_eq_true rfl) (Nat.le_of_ble_eq_true rfl) (by simp [M_read, wif_t, wif_f, c11', hco, hcf]) dX7_read_35
  · skip
    refine lv_iload hx hb dX7_read_14 (lv_at hl 0 rfl) ?_
    refine lv_goto (tgt := 35) hx hb dX7_read_16 (by decide) ?_
    exact hx_iret S X hr hlk (Nat.le_of_ble_eq_true rfl) (Nat.le_of_ble_eq_true rfl) (by simp [M_read, wif_t, wif_f, c11]) dX7_read_35

set_option maxRecDepth 100000 in
set_option maxHeartbeats 4000000 in
theorem c_X7_write (l : Launch) (G : hG) (ad : Nat → Nat) (σ : Sg) (thread object field value : Int32) (hI : Inv σ) : hMi l G yX7_write wsX7_write ({ frames := 5, cells := 0, slots := 0, locals := 121 } : Room) (mW G ad σ) [.ref (ad 0), .int (thread), .int (object), .int (field), .int (value)] (fun r w => r = (M_write σ thread object field value).1 ∧ w = mW G ad (M_write σ thread object field value).2) := by
  refine hMi.of (cc := cX7_write) (maxL := 8) (some .int) RX7 rfl (by decide +kernel) rfl (Nat.le_of_ble_eq_true rfl) ?_
  intro p e s m args below meth c S hr hlk X ls hl
  have hx := S.1
  have hb := S.2.1
  have hown := S.2.2.2.1
  have hts := S.2.2.2.2
  have hl : lv_has ls 8 [(0, .ref (ad 0)), (1, .int (thread)), (2, .int (object)), (3, .int (field)), (4, .int (value))] := hl
  have hin7 : ∀ w ∈ wsX70, w ∈ wsX7_write := by decide +kernel
  have hC6 : nC σ ≤ 6 := hI.1.2
  have hO24 : nO σ ≤ 24 := hI.2.1.2
  refine lv_iload hx hb dX7_write_0 (lv_at hl 4 rfl) ?_
  refine lv_ldc (v := -1000000) hx hb hown (hts (Cond.constant RX7 76 (-1000000)) (by decide +kernel)) dX7_write_2 ?_
  refine lv_ldc (v := 1000000) hx hb hown (hts (Cond.constant RX7 77 (1000000)) (by decide +kernel)) dX7_write_4 ?_
  refine hx_Si (rest := []) S X (c_X7_in l G _ (value) ((-1000000 : Int32)) ((1000000 : Int32))) gX7_write_X7_in rfl (n := 3) (by decide +kernel) rfl ⟨(Nat.le_of_ble_eq_true rfl), (Nat.le_of_ble_eq_true rfl)⟩ hl.1 rfl (Nat.le_of_ble_eq_true rfl) dX7_write_6 ⟨(Nat.le_of_ble_eq_true rfl), (Nat.le_of_ble_eq_true rfl)⟩ (fun r wd1 H locs hp X => ?_)
  obtain ⟨hr6, rfl⟩ := hp
  by_cases h6 : isVal value
  · skip
    refine hx_ei (hr6.1 h6) ?_
    refine lv_if_ne (tgt := 15) hx hb dX7_write_9 (by decide) (fun _ => ?_) (fun c9 => absurd c9 (by decide))
    refine lv_aload_n hx hb dX7_write_15 rfl (lv_at hl 0 rfl) ?_
    refine lv_iload_n hx hb dX7_write_16 rfl (lv_at hl 1 rfl) ?_
    refine lv_iload_n hx hb dX7_write_17 rfl (lv_at hl 2 rfl) ?_
    refine lv_iload_n hx hb dX7_write_18 rfl (lv_at hl 3 rfl) ?_
    refine hx_Vi (rest := []) S X (c_X7_access l G ad σ (thread) (object) (field) hI) gX7_write_X7_access rfl (n := 3) (by decide +kernel) rfl ⟨(Nat.le_of_ble_eq_true rfl), (Nat.le_of_ble_eq_true rfl)⟩ (hx_recvL (q0 := 0) (ci := 7) X rfl (mW_0 _ _ _)) hl.1 rfl (Nat.le_of_ble_eq_true rfl) dX7_write_19 ⟨(Nat.le_of_ble_eq_true rfl), (Nat.le_of_ble_eq_true rfl)⟩ (fun r wd1 H locs hp X => ?_)
    obtain ⟨rfl, rfl⟩ := hp
    refine lv_istore (lv' := [(5, .int ((M_access σ (thread) (object) (field)).1)), (0, .ref (ad 0)), (1, .int (thread)), (2, .int (object)), (3, .int (field)), (4, .int (value))]) hx hb dX7_write_22 hl (by decide) rfl (fun ls hl => ?_)
    refine lv_iload hx hb dX7_write_24 (lv_at hl 0 rfl) ?_
    refine lv_if_eq (tgt := 32) hx hb dX7_write_26 (by decide) (fun c26 => ?_) (fun c26 => ?_)
    · skip
      have c26' := c26
      obtain ⟨th, o, f, ⟨hth, rfl⟩, ⟨ho, hex, rfl⟩, ⟨hf, rfl⟩, hd, he, hh, h8, h9⟩ := acc_ok hI c26
      have hco : (nI o).toNatClampNeg = o := nI_clamp (by omega)
      have hcf : (nI f).toNatClampNeg = f := nI_clamp (by omega)
      have hov : oV (M_access σ (nI th) (nI o) (nI f)).2 o = fV σ (topF σ th) := by unfold oV; rw [h8]; exact nI_clamp (by omega)
      have h8 : (M_access σ (nI th) (nI o) (nI f)).2 8 o = nI (oV (M_access σ (nI th) (nI o) (nI f)).2 o) := by rw [hov]; exact h8
      have hov9 : oV (M_access σ (nI th) (nI o) (nI f)).2 o < 8 := by omega
      refine lv_iload_n hx hb dX7_write_32 rfl (lv_at hl 3 rfl) ?_
      refine lv_aload_n hx hb dX7_write_33 rfl (lv_at hl 1 rfl) ?_
      refine hx_getL S X (ci := 7) 0 (mW_0 _ _ _) rfl hin7 9 (by decide) (by decide +kernel) rfl dX7_write_34 ?_
      refine lv_iload_n hx hb dX7_write_37 rfl (lv_at hl 3 rfl) ?_
      refine mx_ld S X 8 (N := 24) (mW_8 _ _ _) (j := o) (by omega) (by decide) (x := nI (oV (M_access σ (nI th) (nI o) (nI f)).2 o)) (h8) dX7_write_38 ?_
      refine lv_iload_n hx hb dX7_write_39 rfl (lv_at hl 4 rfl) ?_
      refine hx_Si (rest := []) S X (c_X7_cell l G _ (o) (oV (M_access σ (nI th) (nI o) (nI f)).2 o) (f)) gX7_write_X7_cell rfl (n := 3) (by decide +kernel) rfl ⟨(Nat.le_of_ble_eq_true rfl), (Nat.le_of_ble_eq_true rfl)⟩ hl.1 rfl (Nat.le_of_ble_eq_true rfl) dX7_write_40 ⟨(Nat.le_of_ble_eq_true rfl), (Nat.le_of_ble_eq_true rfl)⟩ (fun r wd1 H locs hp X => ?_)
      obtain ⟨rfl, rfl⟩ := hp
      refine lv_istore (lv' := [(6, .int (nI (cel (o) (oV (M_access σ (nI th) (nI o) (nI f)).2 o) (f)))), (5, .int ((M_access σ ((nI (th))) ((nI (o))) ((nI (f)))).1)), (0, .ref (ad 0)), (1, .int (nI (th))), (2, .int (nI (o))), (3, .int (nI (f))), (4, .int (value))]) hx hb dX7_write_43 hl (by decide) rfl (fun ls hl => ?_)
      refine lv_aload_n hx hb dX7_write_45 rfl (lv_at hl 2 rfl) ?_
      refine hx_getL S X (ci := 7) 0 (mW_0 _ _ _) rfl hin7 11 (by decide) (by decide +kernel) rfl dX7_write_46 ?_
      refine lv_iload hx hb dX7_write_49 (lv_at hl 0 rfl) ?_
      refine mx_ld S X 10 (N := 1536) (mW_10 _ _ _) (j := cel (o) (oV (M_access σ (nI th) (nI o) (nI f)).2 o) (f)) (by unfold cel; omega) (by decide) (x := (M_access σ (nI th) (nI o) (nI f)).2 10 (cel (o) (oV (M_access σ (nI th) (nI o) (nI f)).2 o) (f))) (rfl) dX7_write_51 ?_
      refine lv_topi (fun y1 ey1 => ?_)
      refine lv_istore (lv' := [(7, .int (y1)), (6, .int (nI (cel (o) (oV (M_access σ (nI th) (nI o) (nI f)).2 o) (f)))), (5, .int ((M_access σ ((nI (th))) ((nI (o))) ((nI (f)))).1)), (0, .ref (ad 0)), (1, .int (nI (th))), (2, .int (nI (o))), (3, .int (nI (f))), (4, .int (value))]) hx hb dX7_write_52 hl (by decide) rfl (fun ls hl => ?_)
      refine lv_aload_n hx hb dX7_write_54 rfl (lv_at hl 3 rfl) ?_
      refine hx_getL S X (ci := 7) 0 (mW_0 _ _ _) rfl hin7 11 (by decide) (by decide +kernel) rfl dX7_write_55 ?_
      refine lv_iload hx hb dX7_write_58 (lv_at hl 1 rfl) ?_
      refine lv_iload hx hb dX7_write_60 (lv_at hl 7 rfl) ?_
      refine mx_st S X 10 (N := 1536) (mW_10 _ _ _) (j := cel (o) (oV (M_access σ (nI th) (nI o) (nI f)).2 o) (f)) (by unfold cel; omega) (by decide) (x := value) dX7_write_62 (mW_s10 _ _ _ _ _) (fun H locs X => ?_)
      refine lv_iload hx hb dX7_write_63 (lv_at hl 0 rfl) ?_
      exact hx_iret S X hr hlk (Nat.le_of_ble_eq_true rfl) (Nat.le_of_ble_eq_true rfl) (by simp [M_write, wif_t, wif_f, h6, c26', hco, hcf, ey1]) dX7_write_65
    · skip
      refine lv_iload hx hb dX7_write_29 (lv_at hl 0 rfl) ?_
      exact hx_iret S X hr hlk (Nat.le_of_ble_eq_true rfl) (Nat.le_of_ble_eq_true rfl) (by simp [M_write, wif_t, wif_f, h6, c26]) dX7_write_31
  · skip
    refine hx_ei (hr6.2 h6) ?_
    refine lv_if_ne (tgt := 15) hx hb dX7_write_9 (by decide) (fun c9 => absurd (by decide) c9) (fun _ => ?_)
    refine lv_ldc (v := -2000007) hx hb hown (hts (Cond.constant RX7 56 (-2000007)) (by decide +kernel)) dX7_write_12 ?_
    exact hx_iret S X hr hlk (Nat.le_of_ble_eq_true rfl) (Nat.le_of_ble_eq_true rfl) (by simp [M_write, wif_t, wif_f, h6]) dX7_write_14
