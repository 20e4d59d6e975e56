set_option maxRecDepth 100000 in
set_option maxHeartbeats 4000000 in
theorem c_X7_create (l : Launch) (G : hG) (ad : Nat → Nat) (σ : Sg) (thread : Int32) (hI : Inv σ) : hMi l G yX7_create wsX7_create ({ frames := 2, cells := 0, slots := 0, locals := 42 } : Room) (mW G ad σ) [.ref (ad 0), .int (thread)] (fun r w => r = (M_create σ thread).1 ∧ w = mW G ad (M_create σ thread).2) := by
  refine hMi.of (cc := cX7_create) (maxL := 5) (some .int) RX7 rfl (by decide +kernel) rfl (Nat.le_of_ble_eq_true rfl) ?_
  intro p e s m args below meth c S hr hlk X ls hl
  have hx := S.1
  have hb := S.2.1
  have hown := S.2.2.2.1
  have hts := S.2.2.2.2
  have hl : lv_has ls 5 [(0, .ref (ad 0)), (1, .int (thread))] := hl
  have hin7 : ∀ w ∈ wsX70, w ∈ wsX7_create := by decide +kernel
  have hC6 : nC σ ≤ 6 := hI.1.2
  have hO24 : nO σ ≤ 24 := hI.2.1.2
  refine lv_iload_n hx hb dX7_create_0 rfl (lv_at hl 1 rfl) ?_
  refine hx_Si (rest := []) S X (c_X7_isThread l G _ (thread)) gX7_create_X7_isThread rfl (n := 1) (by decide +kernel) rfl ⟨(Nat.le_of_ble_eq_true rfl), (Nat.le_of_ble_eq_true rfl)⟩ hl.1 rfl (Nat.le_of_ble_eq_true rfl) dX7_create_1 ⟨(Nat.le_of_ble_eq_true rfl), (Nat.le_of_ble_eq_true rfl)⟩ (fun r wd1 H locs hp X => ?_)
  obtain ⟨hr1, rfl⟩ := hp
  by_cases h1 : isT (thread)
  · skip
    refine hx_ei (hr1.1 h1) ?_
    have h1' := h1
    obtain ⟨th, hth, rfl⟩ := h1
    have hcth : (nI th).toNatClampNeg = th := nI_clamp (by omega)
    obtain ⟨hd0, hd8⟩ := hI.2.2.2.1 th hth
    refine lv_if_ne (tgt := 10) hx hb dX7_create_4 (by decide) (fun _ => ?_) (fun c9 => absurd c9 (by decide))
    refine lv_aload_n hx hb dX7_create_10 rfl (lv_at hl 0 rfl) ?_
    refine hx_getL S X (ci := 7) 0 (mW_0 _ _ _) rfl hin7 2 (by decide) (by decide +kernel) rfl dX7_create_11 ?_
    refine lv_iload_n hx hb dX7_create_14 rfl (lv_at hl 1 rfl) ?_
    refine mx_ld S X 2 (N := 4) (mW_2 _ _ _) (j := th) (by omega) (by decide) (x := nI (dN σ th)) (hd0) dX7_create_15 ?_
    refine lv_if_ne (tgt := 22) hx hb dX7_create_16 (by decide) (fun c16 => ?_) (fun c16 => ?_)
    · skip
      have c16 := (not_congr (nI_eq (a := dN σ th) (b := 0) (by omega) (by omega))).mp c16
      refine lv_aload_n hx hb dX7_create_22 rfl (lv_at hl 0 rfl) ?_
      refine hx_getL S X (ci := 7) 0 (mW_0 _ _ _) rfl hin7 6 (by decide) (by decide +kernel) rfl dX7_create_23 ?_
      refine hx_ei (show _ = nI (nO σ) from hI.2.1.1) ?_
      refine lv_bipush (v := 24) hx hb dX7_create_26 (by decide) ?_
      refine lv_icmp_ne (tgt := 34) hx hb dX7_create_28 (by decide) (fun c28 => ?_) (fun c28 => ?_)
      · skip
        have c28 := (not_congr (nI_eq (a := nO σ) (b := 24) (by omega) (by omega))).mp c28
        have hfr : topF σ th < 32 := topF_lt hth hd8
        obtain ⟨⟨g1, g2⟩, ⟨g3, g4⟩, g5⟩ := hI.2.2.2.2.1 (topF σ th) hfr (topF_liv c16 hd8)
        have gk8 : cnt σ (fC σ (topF σ th)) ≤ 8 := (hI.2.2.1 _ g2).1.2.2
        refine lv_bipush (v := 8) hx hb dX7_create_34 (by decide) ?_
        refine lv_iload_n hx hb dX7_create_36 rfl (lv_at hl 1 rfl) ?_
        refine lv_imul hx hb dX7_create_37 ?_
        refine hx_ei (show _ = nI ((8) * (th)) from pk_mul (8) (th)) ?_
        refine lv_aload_n hx hb dX7_create_38 rfl (lv_at hl 0 rfl) ?_
        refine hx_getL S X (ci := 7) 0 (mW_0 _ _ _) rfl hin7 2 (by decide) (by decide +kernel) rfl dX7_create_39 ?_
        refine lv_iload_n hx hb dX7_create_42 rfl (lv_at hl 1 rfl) ?_
        refine mx_ld S X 2 (N := 4) (mW_2 _ _ _) (j := th) (by omega) (by decide) (x := nI (dN σ th)) (hd0) dX7_create_43 ?_
        refine lv_iadd hx hb dX7_create_44 ?_
        refine hx_ei (show _ = nI ((8) * (th) + dN σ th) from nI_add ((8) * (th)) (dN σ th)) ?_
        refine lv_iconst (v := 1) hx hb dX7_create_45 (by decide) ?_
        refine lv_isub hx hb dX7_create_46 ?_
        refine hx_ei (show _ = nI (topF σ th) from by rw [show (1 : Int32) = nI 1 from rfl, pk_sub (a := 8 * th + dN σ th) (b := 1) (by omega)]; congr 1; unfold topF; omega) ?_
        refine lv_istore_n (lv' := [(2, .int (nI (topF σ th))), (0, .ref (ad 0)), (1, .int (nI (th)))]) hx hb dX7_create_47 rfl hl (by decide) rfl (fun ls hl => ?_)
        refine lv_aload_n hx hb dX7_create_48 rfl (lv_at hl 1 rfl) ?_
        refine hx_getL S X (ci := 7) 0 (mW_0 _ _ _) rfl hin7 6 (by decide) (by decide +kernel) rfl dX7_create_49 ?_
        refine hx_ei (show _ = nI (nO σ) from hI.2.1.1) ?_
        refine lv_istore_n (lv' := [(3, .int (nI (nO σ))), (2, .int (nI (topF σ th))), (0, .ref (ad 0)), (1, .int (nI (th)))]) hx hb dX7_create_52 rfl hl (by decide) rfl (fun ls hl => ?_)
        refine lv_aload_n hx hb dX7_create_53 rfl (lv_at hl 2 rfl) ?_
        refine lv_dup hx hb dX7_create_54 rfl ?_
        refine hx_getL S X (ci := 7) 0 (mW_0 _ _ _) rfl hin7 6 (by decide) (by decide +kernel) rfl dX7_create_55 ?_
        refine hx_ei (show _ = nI (nO σ) from hI.2.1.1) ?_
        refine lv_iconst (v := 1) hx hb dX7_create_58 (by decide) ?_
        refine lv_iadd hx hb dX7_create_59 ?_
        refine hx_ei (show _ = nI (nO σ + 1) from nI_add (nO σ) (1)) ?_
        refine hx_putL S X (ci := 7) tyX7_ok nmX7 0 (mW_0 _ _ _) rfl hin7 6 (by decide) (by decide +kernel) rfl rfl rfl (Nat.le_of_ble_eq_true rfl) dX7_create_60 (wd' := mW G ad (mS σ 0 1 (nI (nO σ + 1)))) (mW_po _ _ _ _) (fun H locs X => ?_)
        refine lv_aload_n hx hb dX7_create_63 rfl (lv_at hl 2 rfl) ?_
        refine hx_getL S X (ci := 7) 0 (mW_0 _ _ _) rfl hin7 7 (by decide) (by decide +kernel) rfl dX7_create_64 ?_
        refine lv_iload_n hx hb dX7_create_67 rfl (lv_at hl 0 rfl) ?_
        refine lv_iconst (v := 1) hx hb dX7_create_68 (by decide) ?_
        refine mx_zst S X (j := nO σ) (by omega) (x := (1 : Int32)) (by decide) dX7_create_69 (fun H locs X => ?_)
        refine lv_aload_n hx hb dX7_create_70 rfl (lv_at hl 2 rfl) ?_
        refine hx_getL S X (ci := 7) 0 (mW_0 _ _ _) rfl hin7 8 (by decide) (by decide +kernel) rfl dX7_create_71 ?_
        refine lv_iload_n hx hb dX7_create_74 rfl (lv_at hl 0 rfl) ?_
        refine lv_aload_n hx hb dX7_create_75 rfl (lv_at hl 2 rfl) ?_
        refine hx_getL S X (ci := 7) 0 (mW_0 _ _ _) rfl hin7 3 (by decide) (by decide +kernel) rfl dX7_create_76 ?_
        refine lv_iload_n hx hb dX7_create_79 rfl (lv_at hl 1 rfl) ?_
        refine mx_ld S X 3 (N := 32) (mW_3 _ _ _) (j := topF σ th) (by omega) (by decide) (x := nI (fC σ (topF σ th))) (by rw [mS_nk _ _ _ _ (by decide), mS_nk _ _ _ _ (by decide)]; exact g1) dX7_create_80 ?_
        refine mx_st S X 7 (N := 24) (mW_7 _ _ _) (j := nO σ) (by omega) (by decide) (x := nI (fC σ (topF σ th))) dX7_create_81 (mW_s7 _ _ _ _ _) (fun H locs X => ?_)
        refine lv_aload_n hx hb dX7_create_82 rfl (lv_at hl 2 rfl) ?_
        refine hx_getL S X (ci := 7) 0 (mW_0 _ _ _) rfl hin7 9 (by decide) (by decide +kernel) rfl dX7_create_83 ?_
        refine lv_iload_n hx hb dX7_create_86 rfl (lv_at hl 0 rfl) ?_
        refine lv_aload_n hx hb dX7_create_87 rfl (lv_at hl 2 rfl) ?_
        refine hx_getL S X (ci := 7) 0 (mW_0 _ _ _) rfl hin7 4 (by decide) (by decide +kernel) rfl dX7_create_88 ?_
        refine lv_iload_n hx hb dX7_create_91 rfl (lv_at hl 1 rfl) ?_
        refine mx_ld S X 4 (N := 32) (mW_4 _ _ _) (j := topF σ th) (by omega) (by decide) (x := nI (fV σ (topF σ th))) (by rw [mS_nk _ _ _ _ (by decide), mS_nk _ _ _ _ (by decide), mS_nk _ _ _ _ (by decide)]; exact g3) dX7_create_92 ?_
        refine mx_st S X 8 (N := 24) (mW_8 _ _ _) (j := nO σ) (by omega) (by decide) (x := nI (fV σ (topF σ th))) dX7_create_93 (mW_s8 _ _ _ _ _) (fun H locs X => ?_)
        refine lv_aload_n hx hb dX7_create_94 rfl (lv_at hl 2 rfl) ?_
        refine hx_getL S X (ci := 7) 0 (mW_0 _ _ _) rfl hin7 10 (by decide) (by decide +kernel) rfl dX7_create_95 ?_
        refine lv_iload_n hx hb dX7_create_98 rfl (lv_at hl 0 rfl) ?_
        refine lv_aload_n hx hb dX7_create_99 rfl (lv_at hl 2 rfl) ?_
        refine hx_getL S X (ci := 7) 0 (mW_0 _ _ _) rfl hin7 4 (by decide) (by decide +kernel) rfl dX7_create_100 ?_
        refine lv_iload_n hx hb dX7_create_103 rfl (lv_at hl 1 rfl) ?_
        refine mx_ld S X 4 (N := 32) (mW_4 _ _ _) (j := topF σ th) (by omega) (by decide) (x := nI (fV σ (topF σ th))) (by rw [mS_nk _ _ _ _ (by decide), mS_nk _ _ _ _ (by decide), mS_nk _ _ _ _ (by decide), mS_nk _ _ _ _ (by decide)]; exact g3) dX7_create_104 ?_
        refine mx_st S X 9 (N := 24) (mW_9 _ _ _) (j := nO σ) (by omega) (by decide) (x := nI (fV σ (topF σ th))) dX7_create_105 (mW_s9 _ _ _ _ _) (fun H locs X => ?_)
        refine lv_iconst (v := 0) hx hb dX7_create_106 (by decide) ?_
        refine lv_istore (lv' := [(4, .int ((0 : Int32))), (3, .int (nI (nO σ))), (2, .int (nI (topF σ th))), (0, .ref (ad 0)), (1, .int (nI (th)))]) hx hb dX7_create_107 hl (by decide) rfl (fun ls hl => ?_)
        have loop : ∀ (n i : Nat) , i + n = 8 → True → ∀ (H : Heap) (locs : List Loc) (ls : Array Slot), hH G (va_A (mW G ad σ) s.heap.size) s.heap s (mW G ad (crL σ (topF σ th) (nO σ) i)) H locs → lv_has ls 5 [(0, .ref (ad 0)), (2, .int (nI (topF σ th))), (3, .int (nI (nO σ))), (4, .int (nI (i)))] → W p l e ({ frames := 2, cells := 0, slots := 0, locals := 42 } : Room) s m args below meth c H locs 0 0 (MQ below (va_Qi (fun r w => r = (M_create σ (nI th)).1 ∧ w = mW G ad (M_create σ (nI th)).2) (hB G (va_A (mW G ad σ) s.heap.size)) (va_A (mW G ad σ) s.heap.size)) args s 0 0 (va_A (mW G ad σ) s.heap.size)) (F0 m 109 ls []) := by
          intro n
          induction n with
          | zero =>
            intro i  hi hv H locs ls X hl
            have hin : i = 8 := by omega
            refine lv_iload hx hb dX7_create_109 (lv_at hl 3 rfl) ?_
            refine lv_bipush (v := 8) hx hb dX7_create_111 (by decide) ?_
            refine lv_icmp_ge (tgt := 140) hx hb dX7_create_113 (by decide) (fun _ => ?_) (fun c9 => absurd (nI_le (a := 8) (b := i) (by omega) (by omega)) c9)
            refine lv_aload_n hx hb dX7_create_140 rfl (lv_at hl 0 rfl) ?_
            refine hx_getL S X (ci := 7) 0 (mW_0 _ _ _) rfl hin7 5 (by decide) (by decide +kernel) rfl dX7_create_141 ?_
            refine lv_iload_n hx hb dX7_create_144 rfl (lv_at hl 1 rfl) ?_
            refine lv_dup2_11 hx hb dX7_create_145 rfl rfl ?_
            refine mx_ld S X 5 (N := 32) (mW_5 _ _ _) (j := topF σ th) (by omega) (by decide) (x := σ 5 (topF σ th)) (by rw [crL_k i (by decide), crS, mS_nk _ _ _ _ (by decide), mS_nk _ _ _ _ (by decide), mS_nk _ _ _ _ (by decide), mS_nk _ _ _ _ (by decide), mS_nk _ _ _ _ (by decide)]) dX7_create_146 ?_
            refine lv_iconst (v := 1) hx hb dX7_create_147 (by decide) ?_
            refine lv_iload_n hx hb dX7_create_148 rfl (lv_at hl 2 rfl) ?_
            refine lv_ishl hx hb dX7_create_149 ?_
            refine lv_ior hx hb dX7_create_150 ?_
            refine mx_st S X 5 (N := 32) (mW_5 _ _ _) (j := topF σ th) (by omega) (by decide) (x := (σ 5 (topF σ th)) ||| (((1 : Int32)) <<< ((nI (nO σ)) &&& 31))) dX7_create_151 (mW_s5 _ _ _ _ _) (fun H locs X => ?_)
            refine lv_iload_n hx hb dX7_create_152 rfl (lv_at hl 2 rfl) ?_
            exact hx_iret S X hr hlk (Nat.le_of_ble_eq_true rfl) (Nat.le_of_ble_eq_true rfl) (by rw [hin]; simp [M_create, wif_t, wif_f, h1', hcth, c16, c28]) dX7_create_153
          | succ n ih =>
            intro i  hi hv H locs ls X hl
            have hin : i < 8 := by omega
            refine lv_iload hx hb dX7_create_109 (lv_at hl 3 rfl) ?_
            refine lv_bipush (v := 8) hx hb dX7_create_111 (by decide) ?_
            refine lv_icmp_ge (tgt := 140) hx hb dX7_create_113 (by decide) (fun c9 => absurd c9 (nI_ge (a := i) (b := 8) (by omega) (by omega))) (fun _ => ?_)
            refine lv_aload_n hx hb dX7_create_116 rfl (lv_at hl 0 rfl) ?_
            refine hx_getL S X (ci := 7) 0 (mW_0 _ _ _) rfl hin7 11 (by decide) (by decide +kernel) rfl dX7_create_117 ?_
            refine lv_iload_n hx hb dX7_create_120 rfl (lv_at hl 2 rfl) ?_
            refine lv_aload_n hx hb dX7_create_121 rfl (lv_at hl 0 rfl) ?_
            refine hx_getL S X (ci := 7) 0 (mW_0 _ _ _) rfl hin7 9 (by decide) (by decide +kernel) rfl dX7_create_122 ?_
            refine lv_iload_n hx hb dX7_create_125 rfl (lv_at hl 2 rfl) ?_
            refine mx_ld S X 8 (N := 24) (mW_8 _ _ _) (j := nO σ) (by omega) (by decide) (x := nI (fV σ (topF σ th))) (by rw [crL_k i (by decide), crS, mS_nk _ _ _ _ (by decide), mS_eq]) dX7_create_126 ?_
            refine lv_iload hx hb dX7_create_127 (lv_at hl 3 rfl) ?_
            refine hx_Si (rest := [.ref (ad 10)]) S X (c_X7_cell l G _ (nO σ) (fV σ (topF σ th)) (i)) gX7_create_X7_cell rfl (n := 3) (by decide +kernel) rfl ⟨(Nat.le_of_ble_eq_true rfl), (Nat.le_of_ble_eq_true rfl)⟩ hl.1 rfl (Nat.le_of_ble_eq_true rfl) dX7_create_129 ⟨(Nat.le_of_ble_eq_true rfl), (Nat.le_of_ble_eq_true rfl)⟩ (fun r wd1 H locs hp X => ?_)
            obtain ⟨rfl, rfl⟩ := hp
            refine lv_iconst (v := 0) hx hb dX7_create_132 (by decide) ?_
            refine mx_st S X 10 (N := 1536) (mW_10 _ _ _) (j := cel (nO σ) (fV σ (topF σ th)) (i)) (by unfold cel; omega) (by decide) (x := (0 : Int32)) dX7_create_133 (mW_s10 _ _ _ _ _) (fun H locs X => ?_)
            refine lv_iinc (v := nI (i + 1)) (lv' := [(4, .int (nI (i + 1))), (0, .ref (ad 0)), (2, .int (nI (topF σ th))), (3, .int (nI (nO σ)))]) hx hb dX7_create_134 hl (k := 3) rfl (nI_add (i) 1) (by decide) rfl (fun ls hl => ?_)
            refine lv_goto (tgt := 109) hx hb dX7_create_137 (by decide) ?_
            exact ih (i + 1) (by omega) trivial _ _ _ X (lv_sub hl [1, 2, 3, 0] rfl)
        exact loop 8 0 (by omega) trivial _ _ _ X (lv_sub hl [3, 2, 1, 0] rfl)
      · skip
        have c28 := (nI_eq (a := nO σ) (b := 24) (by omega) (by omega)).mp c28
        refine lv_ldc (v := -2000010) hx hb hown (hts (Cond.constant RX7 57 (-2000010)) (by decide +kernel)) dX7_create_31 ?_
        exact hx_iret S X hr hlk (Nat.le_of_ble_eq_true rfl) (Nat.le_of_ble_eq_true rfl) (by simp [M_create, wif_t, wif_f, h1', hcth, c16, c28]) dX7_create_33
    · skip
      have c16 := (nI_eq (a := dN σ th) (b := 0) (by omega) (by omega)).mp c16
      refine lv_ldc (v := -2000006) hx hb hown (hts (Cond.constant RX7 107 (-2000006)) (by decide +kernel)) dX7_create_19 ?_
      exact hx_iret S X hr hlk (Nat.le_of_ble_eq_true rfl) (Nat.le_of_ble_eq_true rfl) (by simp [M_create, wif_t, wif_f, h1', hcth, c16]) dX7_create_21
  · skip
    refine hx_ei (hr1.2 h1) ?_
    refine lv_if_ne (tgt := 10) hx hb dX7_create_4 (by decide) (fun c9 => absurd (by decide) c9) (fun _ => ?_)
    refine lv_ldc (v := -2000003) hx hb hown (hts (Cond.constant RX7 106 (-2000003)) (by decide +kernel)) dX7_create_7 ?_
    exact hx_iret S X hr hlk (Nat.le_of_ble_eq_true rfl) (Nat.le_of_ble_eq_true rfl) (by simp [M_create, wif_t, wif_f, h1]) dX7_create_9
