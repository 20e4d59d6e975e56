set_option maxRecDepth 100000 in
set_option maxHeartbeats 4000000 in
theorem c_X7_convertOnce (l : Launch) (G : hG) (ad : Nat → Nat) (σ : Sg) (o to : Nat) (ho : o < 24) (hto : 1 ≤ to ∧ to < 8) (h7 : σ 7 o = nI (oC σ o)) (h6 : oC σ o < 6) (hC : InvC σ (oC σ o)) : hMi l G yX7_convertOnce wsX7_convertOnce ({ frames := 2, cells := 0, slots := 0, locals := 43 } : Room) (mW G ad σ) [.ref (ad 0), .int (nI (o)), .int (nI (to))] (fun r w => isB r ((M_once σ o to).1 = true) ∧ w = mW G ad (M_once σ o to).2) := by
  refine hMi.of (cc := cX7_convertOnce) (maxL := 10) (some .boolean) RX7 rfl (by decide +kernel) rfl (Nat.le_of_ble_eq_true rfl) ?_
  intro p e s m args below meth c S hr hlk X ls hl
  have hx := S.1
  have hb := S.2.1
  have hown := S.2.2.2.1
  have hts := S.2.2.2.2
  have hl : lv_has ls 10 [(0, .ref (ad 0)), (1, .int (nI (o))), (2, .int (nI (to)))] := hl
  have hin7 : ∀ w ∈ wsX70, w ∈ wsX7_convertOnce := by decide +kernel
  obtain ⟨⟨hn0, hn1⟩, hst⟩ := hC.2.2 to (by omega)
  have loop2 : ∀ (n i : Nat) , i + n = stp σ (oC σ o) to → (stS σ o to (oC σ o) i).1 = true → ∀ (H : Heap) (locs : List Loc) (ls : Array Slot), hH G (va_A (mW G ad σ) s.heap.size) s.heap s (mW G ad (stS σ o to (oC σ o) i).2) H locs → lv_has ls 10 [(0, .ref (ad 0)), (1, .int (nI (o))), (2, .int (nI (to))), (3, .int (nI (oC σ o))), (4, .int (nI (i)))] → W p l e ({ frames := 2, cells := 0, slots := 0, locals := 43 } : Room) s m args below meth c H locs 0 0 (MQ below (va_Qi (fun r w => isB r ((M_once σ o to).1 = true) ∧ w = mW G ad (M_once σ o to).2) (hB G (va_A (mW G ad σ) s.heap.size)) (va_A (mW G ad σ) s.heap.size)) args s 0 0 (va_A (mW G ad σ) s.heap.size)) (F0 m 52 ls []) := by
    intro n
    induction n with
    | zero =>
      intro i  hi hv H locs ls X hl
      have hin : i = stp σ (oC σ o) to := by omega
      refine lv_iload hx hb dX7_convertOnce_52 (lv_at hl 4 rfl) ?_
      refine lv_aload_n hx hb dX7_convertOnce_54 rfl (lv_at hl 0 rfl) ?_
      refine lv_iload_n hx hb dX7_convertOnce_55 rfl (lv_at hl 3 rfl) ?_
      refine lv_bipush (v := 10) hx hb dX7_convertOnce_56 (by decide) ?_
      refine lv_iload_n hx hb dX7_convertOnce_58 rfl (lv_at hl 2 rfl) ?_
      refine lv_iadd hx hb dX7_convertOnce_59 ?_
      refine hx_ei (show _ = nI (10 + to) from nI_add (10) (to)) ?_
      refine hx_Vi (rest := [.int (nI (i))]) S X (c_X7_of l G ad (stS σ o to (oC σ o) i).2 (oC σ o) (10 + to) (by omega)) gX7_convertOnce_X7_of rfl (n := 2) (by decide +kernel) rfl ⟨(Nat.le_of_ble_eq_true rfl), (Nat.le_of_ble_eq_true rfl)⟩ (hx_recvL (q0 := 0) (ci := 7) X rfl (mW_0 _ _ _)) hl.1 rfl (Nat.le_of_ble_eq_true rfl) dX7_convertOnce_60 ⟨(Nat.le_of_ble_eq_true rfl), (Nat.le_of_ble_eq_true rfl)⟩ (fun r wd1 H locs hp X => ?_)
      obtain ⟨rfl, rfl⟩ := hp
      refine hx_ei (show _ = nI (stp σ (oC σ o) to) from (stS_k i (by decide) _).trans hn0) ?_
      refine lv_icmp_ge (tgt := 348) hx hb dX7_convertOnce_63 (by decide) (fun _ => ?_) (fun c9 => absurd (nI_le (a := stp σ (oC σ o) to) (b := i) (by omega) (by omega)) c9)
      refine lv_iconst (v := 1) hx hb dX7_convertOnce_348 (by decide) ?_
      exact hx_zret S X hr hlk (Nat.le_of_ble_eq_true rfl) (Nat.le_of_ble_eq_true rfl) (by decide) ⟨isB_t (by rw [M_once, ← hin]; exact hv) rfl, by rw [M_once, ← hin]⟩ dX7_convertOnce_349
    | succ n ih =>
      intro i  hi hv H locs ls X hl
      have hin : i < stp σ (oC σ o) to := by omega
      have hbI : stI (oC σ o) to i + 2 < 972 := by unfold stI; omega
      obtain ⟨⟨fa, hfa, ea⟩, hk⟩ := hst i hin
      have ea : σ 1 (stI (oC σ o) to i + 1) = nI fa := ea
      have cfa : cN (nI fa) = fa := nI_clamp (by omega)
      rcases hk with ⟨ek, hbv⟩ | ek | ⟨ek, fb, hfb, eb⟩ | ⟨ek, hbv⟩ | ⟨ek, fb, hfb, eb⟩
      · skip
        have ek : σ 1 (stI (oC σ o) to i) = 0 := ek
        refine lv_iload hx hb dX7_convertOnce_52 (lv_at hl 4 rfl) ?_
        refine lv_aload_n hx hb dX7_convertOnce_54 rfl (lv_at hl 0 rfl) ?_
        refine lv_iload_n hx hb dX7_convertOnce_55 rfl (lv_at hl 3 rfl) ?_
        refine lv_bipush (v := 10) hx hb dX7_convertOnce_56 (by decide) ?_
        refine lv_iload_n hx hb dX7_convertOnce_58 rfl (lv_at hl 2 rfl) ?_
        refine lv_iadd hx hb dX7_convertOnce_59 ?_
        refine hx_ei (show _ = nI (10 + to) from nI_add (10) (to)) ?_
        refine hx_Vi (rest := [.int (nI (i))]) S X (c_X7_of l G ad (stS σ o to (oC σ o) i).2 (oC σ o) (10 + to) (by omega)) gX7_convertOnce_X7_of rfl (n := 2) (by decide +kernel) rfl ⟨(Nat.le_of_ble_eq_true rfl), (Nat.le_of_ble_eq_true rfl)⟩ (hx_recvL (q0 := 0) (ci := 7) X rfl (mW_0 _ _ _)) hl.1 rfl (Nat.le_of_ble_eq_true rfl) dX7_convertOnce_60 ⟨(Nat.le_of_ble_eq_true rfl), (Nat.le_of_ble_eq_true rfl)⟩ (fun r wd1 H locs hp X => ?_)
        obtain ⟨rfl, rfl⟩ := hp
        refine hx_ei (show _ = nI (stp σ (oC σ o) to) from (stS_k i (by decide) _).trans hn0) ?_
        refine lv_icmp_ge (tgt := 348) hx hb dX7_convertOnce_63 (by decide) (fun c9 => absurd c9 (nI_ge (a := i) (b := stp σ (oC σ o) to) (by omega) (by omega))) (fun _ => ?_)
        refine lv_iload_n hx hb dX7_convertOnce_66 rfl (lv_at hl 3 rfl) ?_
        refine lv_bipush (v := 18) hx hb dX7_convertOnce_67 (by decide) ?_
        refine lv_bipush (v := 18) hx hb dX7_convertOnce_69 (by decide) ?_
        refine lv_iload_n hx hb dX7_convertOnce_71 rfl (lv_at hl 2 rfl) ?_
        refine lv_imul hx hb dX7_convertOnce_72 ?_
        refine hx_ei (show _ = nI ((18) * (to)) from pk_mul (18) (to)) ?_
        refine lv_iadd hx hb dX7_convertOnce_73 ?_
        refine hx_ei (show _ = nI (18 + (18) * (to)) from nI_add (18) ((18) * (to))) ?_
        refine lv_iconst (v := 3) hx hb dX7_convertOnce_74 (by decide) ?_
        refine lv_iload hx hb dX7_convertOnce_75 (lv_at hl 4 rfl) ?_
        refine lv_imul hx hb dX7_convertOnce_77 ?_
        refine hx_ei (show _ = nI ((3) * (i)) from pk_mul (3) (i)) ?_
        refine lv_iadd hx hb dX7_convertOnce_78 ?_
        refine hx_ei (show _ = nI (18 + (18) * (to) + (3) * (i)) from nI_add (18 + (18) * (to)) ((3) * (i))) ?_
        refine hx_Si (rest := []) S X (c_X7_at l G _ (oC σ o) (18 + (18) * (to) + (3) * (i))) gX7_convertOnce_X7_at rfl (n := 2) (by decide +kernel) rfl ⟨(Nat.le_of_ble_eq_true rfl), (Nat.le_of_ble_eq_true rfl)⟩ hl.1 rfl (Nat.le_of_ble_eq_true rfl) dX7_convertOnce_79 ⟨(Nat.le_of_ble_eq_true rfl), (Nat.le_of_ble_eq_true rfl)⟩ (fun r wd1 H locs hp X => ?_)
        obtain ⟨rfl, rfl⟩ := hp
        refine hx_ei (show _ = nI (stI (oC σ o) to i) from rfl) ?_
        refine lv_istore (lv' := [(5, .int (nI (stI (oC σ o) to i))), (0, .ref (ad 0)), (1, .int (nI (o))), (2, .int (nI (to))), (3, .int (nI (oC σ o))), (4, .int (nI (i)))]) hx hb dX7_convertOnce_82 hl (by decide) rfl (fun ls hl => ?_)
        refine lv_aload_n hx hb dX7_convertOnce_84 rfl (lv_at hl 1 rfl) ?_
        refine hx_getL S X (ci := 7) 0 (mW_0 _ _ _) rfl hin7 1 (by decide) (by decide +kernel) rfl dX7_convertOnce_85 ?_
        refine lv_iload hx hb dX7_convertOnce_88 (lv_at hl 0 rfl) ?_
        refine lv_iconst (v := 1) hx hb dX7_convertOnce_90 (by decide) ?_
        refine lv_iadd hx hb dX7_convertOnce_91 ?_
        refine hx_ei (show _ = nI (stI (oC σ o) to i + 1) from nI_add (stI (oC σ o) to i) (1)) ?_
        refine mx_ld S X 1 (N := 972) (mW_1 _ _ _) (j := stI (oC σ o) to i + 1) (by omega) (by decide) (x := nI (fa)) ((stS_k i (by decide) _).trans ea) dX7_convertOnce_92 ?_
        refine lv_istore (lv' := [(6, .int (nI (fa))), (5, .int (nI (stI (oC σ o) to i))), (0, .ref (ad 0)), (1, .int (nI (o))), (2, .int (nI (to))), (3, .int (nI (oC σ o))), (4, .int (nI (i)))]) hx hb dX7_convertOnce_93 hl (by decide) rfl (fun ls hl => ?_)
        refine lv_aload_n hx hb dX7_convertOnce_95 rfl (lv_at hl 2 rfl) ?_
        refine hx_getL S X (ci := 7) 0 (mW_0 _ _ _) rfl hin7 1 (by decide) (by decide +kernel) rfl dX7_convertOnce_96 ?_
        refine lv_iload hx hb dX7_convertOnce_99 (lv_at hl 1 rfl) ?_
        refine lv_iconst (v := 2) hx hb dX7_convertOnce_101 (by decide) ?_
        refine lv_iadd hx hb dX7_convertOnce_102 ?_
        refine hx_ei (show _ = nI (stI (oC σ o) to i + 2) from nI_add (stI (oC σ o) to i) (2)) ?_
        refine mx_ld S X 1 (N := 972) (mW_1 _ _ _) (j := stI (oC σ o) to i + 2) (by omega) (by decide) (x := σ 1 (stI (oC σ o) to i + 2)) ((stS_k i (by decide) _)) dX7_convertOnce_103 ?_
        refine lv_istore (lv' := [(7, .int (σ 1 (stI (oC σ o) to i + 2))), (6, .int (nI (fa))), (5, .int (nI (stI (oC σ o) to i))), (0, .ref (ad 0)), (1, .int (nI (o))), (2, .int (nI (to))), (3, .int (nI (oC σ o))), (4, .int (nI (i)))]) hx hb dX7_convertOnce_104 hl (by decide) rfl (fun ls hl => ?_)
        refine lv_aload_n hx hb dX7_convertOnce_106 rfl (lv_at hl 3 rfl) ?_
        refine hx_getL S X (ci := 7) 0 (mW_0 _ _ _) rfl hin7 1 (by decide) (by decide +kernel) rfl dX7_convertOnce_107 ?_
        refine lv_iload hx hb dX7_convertOnce_110 (lv_at hl 2 rfl) ?_
        refine mx_ld S X 1 (N := 972) (mW_1 _ _ _) (j := stI (oC σ o) to i) (by omega) (by decide) (x := (0 : Int32)) ((stS_k i (by decide) _).trans ek) dX7_convertOnce_112 ?_
        refine lv_tableIn (off := 35) (tgt := 148) hx hb dX7_convertOnce_113 (by decide) (by decide) (by decide) (by decide) ?_
        refine lv_aload_n hx hb dX7_convertOnce_148 rfl (lv_at hl 3 rfl) ?_
        refine hx_getL S X (ci := 7) 0 (mW_0 _ _ _) rfl hin7 11 (by decide) (by decide +kernel) rfl dX7_convertOnce_149 ?_
        refine lv_iload_n hx hb dX7_convertOnce_152 rfl (lv_at hl 4 rfl) ?_
        refine lv_iload_n hx hb dX7_convertOnce_153 rfl (lv_at hl 5 rfl) ?_
        refine lv_iload hx hb dX7_convertOnce_154 (lv_at hl 1 rfl) ?_
        refine hx_Si (rest := [.ref (ad 10)]) S X (c_X7_cell l G _ (o) (to) (fa)) gX7_convertOnce_X7_cell rfl (n := 3) (by decide +kernel) rfl ⟨(Nat.le_of_ble_eq_true rfl), (Nat.le_of_ble_eq_true rfl)⟩ hl.1 rfl (Nat.le_of_ble_eq_true rfl) dX7_convertOnce_156 ⟨(Nat.le_of_ble_eq_true rfl), (Nat.le_of_ble_eq_true rfl)⟩ (fun r wd1 H locs hp X => ?_)
        obtain ⟨rfl, rfl⟩ := hp
        refine lv_iload hx hb dX7_convertOnce_159 (lv_at hl 0 rfl) ?_
        refine mx_st S X 10 (N := 1536) (mW_10 _ _ _) (j := cel (o) (to) (fa)) (by unfold cel; omega) (by decide) (x := σ 1 (stI (oC σ o) to i + 2)) dX7_convertOnce_161 (mW_s10 _ _ _ _ _) (fun H locs X => ?_)
        refine lv_goto (tgt := 287) hx hb dX7_convertOnce_162 (by decide) ?_
        refine lv_aload_n hx hb dX7_convertOnce_287 rfl (lv_at hl 3 rfl) ?_
        refine hx_getL S X (ci := 7) 0 (mW_0 _ _ _) rfl hin7 1 (by decide) (by decide +kernel) rfl dX7_convertOnce_288 ?_
        refine lv_iload hx hb dX7_convertOnce_291 (lv_at hl 2 rfl) ?_
        refine mx_ld S X 1 (N := 972) (mW_1 _ _ _) (j := stI (oC σ o) to i) (by omega) (by decide) (x := (0 : Int32)) (by rw [mS_nk _ _ _ _ (by decide)]; exact (stS_k i (by decide) _).trans ek) dX7_convertOnce_293 ?_
        refine lv_iconst (v := 2) hx hb dX7_convertOnce_294 (by decide) ?_
        refine lv_icmp_eq (tgt := 309) hx hb dX7_convertOnce_295 (by decide) (fun c9 => absurd c9 (by decide)) (fun _ => ?_)
        refine lv_aload_n hx hb dX7_convertOnce_298 rfl (lv_at hl 3 rfl) ?_
        refine hx_getL S X (ci := 7) 0 (mW_0 _ _ _) rfl hin7 1 (by decide) (by decide +kernel) rfl dX7_convertOnce_299 ?_
        refine lv_iload hx hb dX7_convertOnce_302 (lv_at hl 2 rfl) ?_
        refine mx_ld S X 1 (N := 972) (mW_1 _ _ _) (j := stI (oC σ o) to i) (by omega) (by decide) (x := (0 : Int32)) (by rw [mS_nk _ _ _ _ (by decide)]; exact (stS_k i (by decide) _).trans ek) dX7_convertOnce_304 ?_
        refine lv_iconst (v := 4) hx hb dX7_convertOnce_305 (by decide) ?_
        refine lv_icmp_ne (tgt := 314) hx hb dX7_convertOnce_306 (by decide) (fun _ => ?_) (fun c9 => absurd c9 (by decide))
        refine lv_iload hx hb dX7_convertOnce_314 (lv_at hl 1 rfl) ?_
        refine lv_istore (lv' := [(8, .int (nI (fa))), (7, .int (σ 1 (stI (oC σ o) to i + 2))), (6, .int (nI (fa))), (5, .int (nI (stI (oC σ o) to i))), (0, .ref (ad 0)), (1, .int (nI (o))), (2, .int (nI (to))), (3, .int (nI (oC σ o))), (4, .int (nI (i)))]) hx hb dX7_convertOnce_316 hl (by decide) rfl (fun ls hl => ?_)
        refine lv_aload_n hx hb dX7_convertOnce_318 rfl (lv_at hl 4 rfl) ?_
        refine hx_getL S X (ci := 7) 0 (mW_0 _ _ _) rfl hin7 11 (by decide) (by decide +kernel) rfl dX7_convertOnce_319 ?_
        refine lv_iload_n hx hb dX7_convertOnce_322 rfl (lv_at hl 5 rfl) ?_
        refine lv_iload_n hx hb dX7_convertOnce_323 rfl (lv_at hl 6 rfl) ?_
        refine lv_iload hx hb dX7_convertOnce_324 (lv_at hl 0 rfl) ?_
        refine hx_Si (rest := [.ref (ad 10)]) S X (c_X7_cell l G _ (o) (to) (fa)) gX7_convertOnce_X7_cell rfl (n := 3) (by decide +kernel) rfl ⟨(Nat.le_of_ble_eq_true rfl), (Nat.le_of_ble_eq_true rfl)⟩ hl.1 rfl (Nat.le_of_ble_eq_true rfl) dX7_convertOnce_326 ⟨(Nat.le_of_ble_eq_true rfl), (Nat.le_of_ble_eq_true rfl)⟩ (fun r wd1 H locs hp X => ?_)
        obtain ⟨rfl, rfl⟩ := hp
        refine mx_ld S X 10 (N := 1536) (mW_10 _ _ _) (j := cel (o) (to) (fa)) (by unfold cel; omega) (by decide) (x := σ 1 (stI (oC σ o) to i + 2)) (by rw [mS_eq]) dX7_convertOnce_329 ?_
        refine lv_ldc (v := -1000000) hx hb hown (hts (Cond.constant RX7 76 (-1000000)) (by decide +kernel)) dX7_convertOnce_330 ?_
        refine lv_ldc (v := 1000000) hx hb hown (hts (Cond.constant RX7 77 (1000000)) (by decide +kernel)) dX7_convertOnce_332 ?_
        refine hx_Si (rest := []) S X (c_X7_in l G _ (σ 1 (stI (oC σ o) to i + 2)) ((-1000000 : Int32)) ((1000000 : Int32))) gX7_convertOnce_X7_in rfl (n := 3) (by decide +kernel) rfl ⟨(Nat.le_of_ble_eq_true rfl), (Nat.le_of_ble_eq_true rfl)⟩ hl.1 rfl (Nat.le_of_ble_eq_true rfl) dX7_convertOnce_334 ⟨(Nat.le_of_ble_eq_true rfl), (Nat.le_of_ble_eq_true rfl)⟩ (fun r wd1 H locs hp X => ?_)
        obtain ⟨hr334, rfl⟩ := hp
        by_cases h334 : isVal (σ 1 (stI (oC σ o) to i + 2))
        · skip
          refine hx_ei (hr334.1 h334) ?_
          refine lv_if_ne (tgt := 342) hx hb dX7_convertOnce_337 (by decide) (fun _ => ?_) (fun c9 => absurd c9 (by decide))
          refine lv_iinc (v := nI (i + 1)) (lv' := [(4, .int (nI (i + 1))), (8, .int (nI (fa))), (7, .int (σ 1 (stI (oC σ o) to i + 2))), (6, .int (nI (fa))), (5, .int (nI (stI (oC σ o) to i))), (0, .ref (ad 0)), (1, .int (nI (o))), (2, .int (nI (to))), (3, .int (nI (oC σ o)))]) hx hb dX7_convertOnce_342 hl (k := 8) rfl (nI_add (i) 1) (by decide) rfl (fun ls hl => ?_)
          refine lv_goto (tgt := 52) hx hb dX7_convertOnce_345 (by decide) ?_
          have hS := stS_yes (s' := (mS (stS σ o to (oC σ o) i).2 10 (cel (o) (to) (fa)) (σ 1 (stI (oC σ o) to i + 2)))) hv (by rw [ek, ea]; simp [stepS, cfa]) (by rw [ek, ea, show chgF 0 (nI fa) _ = fa from by simp [chgF, cfa]]; rw [mS_eq]; exact h334)
          exact ih (i + 1) (by omega) (by rw [hS]) _ _ _ (X.to (congrArg (mW G ad) (show _ = (stS σ o to (oC σ o) (i + 1)).2 from by rw [hS]))) (lv_sub hl [5, 6, 7, 8, 0] rfl)
        · skip
          refine hx_ei (hr334.2 h334) ?_
          refine lv_if_ne (tgt := 342) hx hb dX7_convertOnce_337 (by decide) (fun c9 => absurd (by decide) c9) (fun _ => ?_)
          refine lv_iconst (v := 0) hx hb dX7_convertOnce_340 (by decide) ?_
          have hS := stS_no (s' := (mS (stS σ o to (oC σ o) i).2 10 (cel (o) (to) (fa)) (σ 1 (stI (oC σ o) to i + 2)))) hv (by rw [ek, ea]; simp [stepS, cfa]) (by rw [ek, ea, show chgF 0 (nI fa) _ = fa from by simp [chgF, cfa]]; rw [mS_eq]; exact h334)
          have hM : M_once σ o to = (false, (mS (stS σ o to (oC σ o) i).2 10 (cel (o) (to) (fa)) (σ 1 (stI (oC σ o) to i + 2)))) := by rw [M_once, show stp σ (oC σ o) to = (i + 1) + (stp σ (oC σ o) to - (i + 1)) by omega, stS_stop (by rw [hS]; simp), hS]
          exact hx_zret S X hr hlk (Nat.le_of_ble_eq_true rfl) (Nat.le_of_ble_eq_true rfl) (by decide) ⟨isB_f (by rw [hM]; simp) rfl, by rw [hM]⟩ dX7_convertOnce_341
      · skip
        have ek : σ 1 (stI (oC σ o) to i) = 1 := ek
        refine lv_iload hx hb dX7_convertOnce_52 (lv_at hl 4 rfl) ?_
        refine lv_aload_n hx hb dX7_convertOnce_54 rfl (lv_at hl 0 rfl) ?_
        refine lv_iload_n hx hb dX7_convertOnce_55 rfl (lv_at hl 3 rfl) ?_
        refine lv_bipush (v := 10) hx hb dX7_convertOnce_56 (by decide) ?_
        refine lv_iload_n hx hb dX7_convertOnce_58 rfl (lv_at hl 2 rfl) ?_
        refine lv_iadd hx hb dX7_convertOnce_59 ?_
        refine hx_ei (show _ = nI (10 + to) from nI_add (10) (to)) ?_
        refine hx_Vi (rest := [.int (nI (i))]) S X (c_X7_of l G ad (stS σ o to (oC σ o) i).2 (oC σ o) (10 + to) (by omega)) gX7_convertOnce_X7_of rfl (n := 2) (by decide +kernel) rfl ⟨(Nat.le_of_ble_eq_true rfl), (Nat.le_of_ble_eq_true rfl)⟩ (hx_recvL (q0 := 0) (ci := 7) X rfl (mW_0 _ _ _)) hl.1 rfl (Nat.le_of_ble_eq_true rfl) dX7_convertOnce_60 ⟨(Nat.le_of_ble_eq_true rfl), (Nat.le_of_ble_eq_true rfl)⟩ (fun r wd1 H locs hp X => ?_)
        obtain ⟨rfl, rfl⟩ := hp
        refine hx_ei (show _ = nI (stp σ (oC σ o) to) from (stS_k i (by decide) _).trans hn0) ?_
        refine lv_icmp_ge (tgt := 348) hx hb dX7_convertOnce_63 (by decide) (fun c9 => absurd c9 (nI_ge (a := i) (b := stp σ (oC σ o) to) (by omega) (by omega))) (fun _ => ?_)
        refine lv_iload_n hx hb dX7_convertOnce_66 rfl (lv_at hl 3 rfl) ?_
        refine lv_bipush (v := 18) hx hb dX7_convertOnce_67 (by decide) ?_
        refine lv_bipush (v := 18) hx hb dX7_convertOnce_69 (by decide) ?_
        refine lv_iload_n hx hb dX7_convertOnce_71 rfl (lv_at hl 2 rfl) ?_
        refine lv_imul hx hb dX7_convertOnce_72 ?_
        refine hx_ei (show _ = nI ((18) * (to)) from pk_mul (18) (to)) ?_
        refine lv_iadd hx hb dX7_convertOnce_73 ?_
        refine hx_ei (show _ = nI (18 + (18) * (to)) from nI_add (18) ((18) * (to))) ?_
        refine lv_iconst (v := 3) hx hb dX7_convertOnce_74 (by decide) ?_
        refine lv_iload hx hb dX7_convertOnce_75 (lv_at hl 4 rfl) ?_
        refine lv_imul hx hb dX7_convertOnce_77 ?_
        refine hx_ei (show _ = nI ((3) * (i)) from pk_mul (3) (i)) ?_
        refine lv_iadd hx hb dX7_convertOnce_78 ?_
        refine hx_ei (show _ = nI (18 + (18) * (to) + (3) * (i)) from nI_add (18 + (18) * (to)) ((3) * (i))) ?_
        refine hx_Si (rest := []) S X (c_X7_at l G _ (oC σ o) (18 + (18) * (to) + (3) * (i))) gX7_convertOnce_X7_at rfl (n := 2) (by decide +kernel) rfl ⟨(Nat.le_of_ble_eq_true rfl), (Nat.le_of_ble_eq_true rfl)⟩ hl.1 rfl (Nat.le_of_ble_eq_true rfl) dX7_convertOnce_79 ⟨(Nat.le_of_ble_eq_true rfl), (Nat.le_of_ble_eq_true rfl)⟩ (fun r wd1 H locs hp X => ?_)
        obtain ⟨rfl, rfl⟩ := hp
        refine hx_ei (show _ = nI (stI (oC σ o) to i) from rfl) ?_
        refine lv_istore (lv' := [(5, .int (nI (stI (oC σ o) to i))), (0, .ref (ad 0)), (1, .int (nI (o))), (2, .int (nI (to))), (3, .int (nI (oC σ o))), (4, .int (nI (i)))]) hx hb dX7_convertOnce_82 hl (by decide) rfl (fun ls hl => ?_)
        refine lv_aload_n hx hb dX7_convertOnce_84 rfl (lv_at hl 1 rfl) ?_
        refine hx_getL S X (ci := 7) 0 (mW_0 _ _ _) rfl hin7 1 (by decide) (by decide +kernel) rfl dX7_convertOnce_85 ?_
        refine lv_iload hx hb dX7_convertOnce_88 (lv_at hl 0 rfl) ?_
        refine lv_iconst (v := 1) hx hb dX7_convertOnce_90 (by decide) ?_
        refine lv_iadd hx hb dX7_convertOnce_91 ?_
        refine hx_ei (show _ = nI (stI (oC σ o) to i + 1) from nI_add (stI (oC σ o) to i) (1)) ?_
        refine mx_ld S X 1 (N := 972) (mW_1 _ _ _) (j := stI (oC σ o) to i + 1) (by omega) (by decide) (x := nI (fa)) ((stS_k i (by decide) _).trans ea) dX7_convertOnce_92 ?_
        refine lv_istore (lv' := [(6, .int (nI (fa))), (5, .int (nI (stI (oC σ o) to i))), (0, .ref (ad 0)), (1, .int (nI (o))), (2, .int (nI (to))), (3, .int (nI (oC σ o))), (4, .int (nI (i)))]) hx hb dX7_convertOnce_93 hl (by decide) rfl (fun ls hl => ?_)
        refine lv_aload_n hx hb dX7_convertOnce_95 rfl (lv_at hl 2 rfl) ?_
        refine hx_getL S X (ci := 7) 0 (mW_0 _ _ _) rfl hin7 1 (by decide) (by decide +kernel) rfl dX7_convertOnce_96 ?_
        refine lv_iload hx hb dX7_convertOnce_99 (lv_at hl 1 rfl) ?_
        refine lv_iconst (v := 2) hx hb dX7_convertOnce_101 (by decide) ?_
        refine lv_iadd hx hb dX7_convertOnce_102 ?_
        refine hx_ei (show _ = nI (stI (oC σ o) to i + 2) from nI_add (stI (oC σ o) to i) (2)) ?_
        refine mx_ld S X 1 (N := 972) (mW_1 _ _ _) (j := stI (oC σ o) to i + 2) (by omega) (by decide) (x := σ 1 (stI (oC σ o) to i + 2)) ((stS_k i (by decide) _)) dX7_convertOnce_103 ?_
        refine lv_istore (lv' := [(7, .int (σ 1 (stI (oC σ o) to i + 2))), (6, .int (nI (fa))), (5, .int (nI (stI (oC σ o) to i))), (0, .ref (ad 0)), (1, .int (nI (o))), (2, .int (nI (to))), (3, .int (nI (oC σ o))), (4, .int (nI (i)))]) hx hb dX7_convertOnce_104 hl (by decide) rfl (fun ls hl => ?_)
        refine lv_aload_n hx hb dX7_convertOnce_106 rfl (lv_at hl 3 rfl) ?_
        refine hx_getL S X (ci := 7) 0 (mW_0 _ _ _) rfl hin7 1 (by decide) (by decide +kernel) rfl dX7_convertOnce_107 ?_
        refine lv_iload hx hb dX7_convertOnce_110 (lv_at hl 2 rfl) ?_
        refine mx_ld S X 1 (N := 972) (mW_1 _ _ _) (j := stI (oC σ o) to i) (by omega) (by decide) (x := (1 : Int32)) ((stS_k i (by decide) _).trans ek) dX7_convertOnce_112 ?_
        refine lv_tableIn (off := 174) (tgt := 287) hx hb dX7_convertOnce_113 (by decide) (by decide) (by decide) (by decide) ?_
        refine lv_aload_n hx hb dX7_convertOnce_287 rfl (lv_at hl 3 rfl) ?_
        refine hx_getL S X (ci := 7) 0 (mW_0 _ _ _) rfl hin7 1 (by decide) (by decide +kernel) rfl dX7_convertOnce_288 ?_
        refine lv_iload hx hb dX7_convertOnce_291 (lv_at hl 2 rfl) ?_
        refine mx_ld S X 1 (N := 972) (mW_1 _ _ _) (j := stI (oC σ o) to i) (by omega) (by decide) (x := (1 : Int32)) ((stS_k i (by decide) _).trans ek) dX7_convertOnce_293 ?_
        refine lv_iconst (v := 2) hx hb dX7_convertOnce_294 (by decide) ?_
        refine lv_icmp_eq (tgt := 309) hx hb dX7_convertOnce_295 (by decide) (fun c9 => absurd c9 (by decide)) (fun _ => ?_)
        refine lv_aload_n hx hb dX7_convertOnce_298 rfl (lv_at hl 3 rfl) ?_
        refine hx_getL S X (ci := 7) 0 (mW_0 _ _ _) rfl hin7 1 (by decide) (by decide +kernel) rfl dX7_convertOnce_299 ?_
        refine lv_iload hx hb dX7_convertOnce_302 (lv_at hl 2 rfl) ?_
        refine mx_ld S X 1 (N := 972) (mW_1 _ _ _) (j := stI (oC σ o) to i) (by omega) (by decide) (x := (1 : Int32)) ((stS_k i (by decide) _).trans ek) dX7_convertOnce_304 ?_
        refine lv_iconst (v := 4) hx hb dX7_convertOnce_305 (by decide) ?_
        refine lv_icmp_ne (tgt := 314) hx hb dX7_convertOnce_306 (by decide) (fun _ => ?_) (fun c9 => absurd c9 (by decide))
        refine lv_iload hx hb dX7_convertOnce_314 (lv_at hl 1 rfl) ?_
        refine lv_istore (lv' := [(8, .int (nI (fa))), (7, .int (σ 1 (stI (oC σ o) to i + 2))), (6, .int (nI (fa))), (5, .int (nI (stI (oC σ o) to i))), (0, .ref (ad 0)), (1, .int (nI (o))), (2, .int (nI (to))), (3, .int (nI (oC σ o))), (4, .int (nI (i)))]) hx hb dX7_convertOnce_316 hl (by decide) rfl (fun ls hl => ?_)
        refine lv_aload_n hx hb dX7_convertOnce_318 rfl (lv_at hl 4 rfl) ?_
        refine hx_getL S X (ci := 7) 0 (mW_0 _ _ _) rfl hin7 11 (by decide) (by decide +kernel) rfl dX7_convertOnce_319 ?_
        refine lv_iload_n hx hb dX7_convertOnce_322 rfl (lv_at hl 5 rfl) ?_
        refine lv_iload_n hx hb dX7_convertOnce_323 rfl (lv_at hl 6 rfl) ?_
        refine lv_iload hx hb dX7_convertOnce_324 (lv_at hl 0 rfl) ?_
        refine hx_Si (rest := [.ref (ad 10)]) S X (c_X7_cell l G _ (o) (to) (fa)) gX7_convertOnce_X7_cell rfl (n := 3) (by decide +kernel) rfl ⟨(Nat.le_of_ble_eq_true rfl), (Nat.le_of_ble_eq_true rfl)⟩ hl.1 rfl (Nat.le_of_ble_eq_true rfl) dX7_convertOnce_326 ⟨(Nat.le_of_ble_eq_true rfl), (Nat.le_of_ble_eq_true rfl)⟩ (fun r wd1 H locs hp X => ?_)
        obtain ⟨rfl, rfl⟩ := hp
        refine mx_ld S X 10 (N := 1536) (mW_10 _ _ _) (j := cel (o) (to) (fa)) (by unfold cel; omega) (by decide) (x := (stS σ o to (oC σ o) i).2 10 (cel (o) (to) (fa))) (rfl) dX7_convertOnce_329 ?_
        refine lv_ldc (v := -1000000) hx hb hown (hts (Cond.constant RX7 76 (-1000000)) (by decide +kernel)) dX7_convertOnce_330 ?_
        refine lv_ldc (v := 1000000) hx hb hown (hts (Cond.constant RX7 77 (1000000)) (by decide +kernel)) dX7_convertOnce_332 ?_
        refine hx_Si (rest := []) S X (c_X7_in l G _ ((stS σ o to (oC σ o) i).2 10 (cel (o) (to) (fa))) ((-1000000 : Int32)) ((1000000 : Int32))) gX7_convertOnce_X7_in rfl (n := 3) (by decide +kernel) rfl ⟨(Nat.le_of_ble_eq_true rfl), (Nat.le_of_ble_eq_true rfl)⟩ hl.1 rfl (Nat.le_of_ble_eq_true rfl) dX7_convertOnce_334 ⟨(Nat.le_of_ble_eq_true rfl), (Nat.le_of_ble_eq_true rfl)⟩ (fun r wd1 H locs hp X => ?_)
        obtain ⟨hr334, rfl⟩ := hp
        by_cases h334 : isVal ((stS σ o to (oC σ o) i).2 10 (cel (o) (to) (fa)))
        · skip
          refine hx_ei (hr334.1 h334) ?_
          refine lv_if_ne (tgt := 342) hx hb dX7_convertOnce_337 (by decide) (fun _ => ?_) (fun c9 => absurd c9 (by decide))
          refine lv_iinc (v := nI (i + 1)) (lv' := [(4, .int (nI (i + 1))), (8, .int (nI (fa))), (7, .int (σ 1 (stI (oC σ o) to i + 2))), (6, .int (nI (fa))), (5, .int (nI (stI (oC σ o) to i))), (0, .ref (ad 0)), (1, .int (nI (o))), (2, .int (nI (to))), (3, .int (nI (oC σ o)))]) hx hb dX7_convertOnce_342 hl (k := 8) rfl (nI_add (i) 1) (by decide) rfl (fun ls hl => ?_)
          refine lv_goto (tgt := 52) hx hb dX7_convertOnce_345 (by decide) ?_
          have hS := stS_yes (s' := (stS σ o to (oC σ o) i).2) hv (by rw [ek, ea]; simp [stepS, cfa]) (by rw [ek, ea, show chgF 1 (nI fa) _ = fa from by simp [chgF, cfa]]; exact h334)
          exact ih (i + 1) (by omega) (by rw [hS]) _ _ _ (X.to (congrArg (mW G ad) (show _ = (stS σ o to (oC σ o) (i + 1)).2 from by rw [hS]))) (lv_sub hl [5, 6, 7, 8, 0] rfl)
        · skip
          refine hx_ei (hr334.2 h334) ?_
          refine lv_if_ne (tgt := 342) hx hb dX7_convertOnce_337 (by decide) (fun c9 => absurd (by decide) c9) (fun _ => ?_)
          refine lv_iconst (v := 0) hx hb dX7_convertOnce_340 (by decide) ?_
          have hS := stS_no (s' := (stS σ o to (oC σ o) i).2) hv (by rw [ek, ea]; simp [stepS, cfa]) (by rw [ek, ea, show chgF 1 (nI fa) _ = fa from by simp [chgF, cfa]]; intro q; exact h334 q)
          have hM : M_once σ o to = (false, (stS σ o to (oC σ o) i).2) := by rw [M_once, show stp σ (oC σ o) to = (i + 1) + (stp σ (oC σ o) to - (i + 1)) by omega, stS_stop (by rw [hS]; simp), hS]
          exact hx_zret S X hr hlk (Nat.le_of_ble_eq_true rfl) (Nat.le_of_ble_eq_true rfl) (by decide) ⟨isB_f (by rw [hM]; simp) rfl, by rw [hM]⟩ dX7_convertOnce_341
      · skip
        have ek : σ 1 (stI (oC σ o) to i) = 2 := ek
        have eb : σ 1 (stI (oC σ o) to i + 2) = nI fb := eb
        have cfb : cN (nI fb) = fb := nI_clamp (by omega)
        refine lv_iload hx hb dX7_convertOnce_52 (lv_at hl 4 rfl) ?_
        refine lv_aload_n hx hb dX7_convertOnce_54 rfl (lv_at hl 0 rfl) ?_
        refine lv_iload_n hx hb dX7_convertOnce_55 rfl (lv_at hl 3 rfl) ?_
        refine lv_bipush (v := 10) hx hb dX7_convertOnce_56 (by decide) ?_
        refine lv_iload_n hx hb dX7_convertOnce_58 rfl (lv_at hl 2 rfl) ?_
        refine lv_iadd hx hb dX7_convertOnce_59 ?_
        refine hx_ei (show _ = nI (10 + to) from nI_add (10) (to)) ?_
        refine hx_Vi (rest := [.int (nI (i))]) S X (c_X7_of l G ad (stS σ o to (oC σ o) i).2 (oC σ o) (10 + to) (by omega)) gX7_convertOnce_X7_of rfl (n := 2) (by decide +kernel) rfl ⟨(Nat.le_of_ble_eq_true rfl), (Nat.le_of_ble_eq_true rfl)⟩ (hx_recvL (q0 := 0) (ci := 7) X rfl (mW_0 _ _ _)) hl.1 rfl (Nat.le_of_ble_eq_true rfl) dX7_convertOnce_60 ⟨(Nat.le_of_ble_eq_true rfl), (Nat.le_of_ble_eq_true rfl)⟩ (fun r wd1 H locs hp X => ?_)
        obtain ⟨rfl, rfl⟩ := hp
        refine hx_ei (show _ = nI (stp σ (oC σ o) to) from (stS_k i (by decide) _).trans hn0) ?_
        refine lv_icmp_ge (tgt := 348) hx hb dX7_convertOnce_63 (by decide) (fun c9 => absurd c9 (nI_ge (a := i) (b := stp σ (oC σ o) to) (by omega) (by omega))) (fun _ => ?_)
        refine lv_iload_n hx hb dX7_convertOnce_66 rfl (lv_at hl 3 rfl) ?_
        refine lv_bipush (v := 18) hx hb dX7_convertOnce_67 (by decide) ?_
        refine lv_bipush (v := 18) hx hb dX7_convertOnce_69 (by decide) ?_
        refine lv_iload_n hx hb dX7_convertOnce_71 rfl (lv_at hl 2 rfl) ?_
        refine lv_imul hx hb dX7_convertOnce_72 ?_
        refine hx_ei (show _ = nI ((18) * (to)) from pk_mul (18) (to)) ?_
        refine lv_iadd hx hb dX7_convertOnce_73 ?_
        refine hx_ei (show _ = nI (18 + (18) * (to)) from nI_add (18) ((18) * (to))) ?_
        refine lv_iconst (v := 3) hx hb dX7_convertOnce_74 (by decide) ?_
        refine lv_iload hx hb dX7_convertOnce_75 (lv_at hl 4 rfl) ?_
        refine lv_imul hx hb dX7_convertOnce_77 ?_
        refine hx_ei (show _ = nI ((3) * (i)) from pk_mul (3) (i)) ?_
        refine lv_iadd hx hb dX7_convertOnce_78 ?_
        refine hx_ei (show _ = nI (18 + (18) * (to) + (3) * (i)) from nI_add (18 + (18) * (to)) ((3) * (i))) ?_
        refine hx_Si (rest := []) S X (c_X7_at l G _ (oC σ o) (18 + (18) * (to) + (3) * (i))) gX7_convertOnce_X7_at rfl (n := 2) (by decide +kernel) rfl ⟨(Nat.le_of_ble_eq_true rfl), (Nat.le_of_ble_eq_true rfl)⟩ hl.1 rfl (Nat.le_of_ble_eq_true rfl) dX7_convertOnce_79 ⟨(Nat.le_of_ble_eq_true rfl), (Nat.le_of_ble_eq_true rfl)⟩ (fun r wd1 H locs hp X => ?_)
        obtain ⟨rfl, rfl⟩ := hp
        refine hx_ei (show _ = nI (stI (oC σ o) to i) from rfl) ?_
        refine lv_istore (lv' := [(5, .int (nI (stI (oC σ o) to i))), (0, .ref (ad 0)), (1, .int (nI (o))), (2, .int (nI (to))), (3, .int (nI (oC σ o))), (4, .int (nI (i)))]) hx hb dX7_convertOnce_82 hl (by decide) rfl (fun ls hl => ?_)
        refine lv_aload_n hx hb dX7_convertOnce_84 rfl (lv_at hl 1 rfl) ?_
        refine hx_getL S X (ci := 7) 0 (mW_0 _ _ _) rfl hin7 1 (by decide) (by decide +kernel) rfl dX7_convertOnce_85 ?_
        refine lv_iload hx hb dX7_convertOnce_88 (lv_at hl 0 rfl) ?_
        refine lv_iconst (v := 1) hx hb dX7_convertOnce_90 (by decide) ?_
        refine lv_iadd hx hb dX7_convertOnce_91 ?_
        refine hx_ei (show _ = nI (stI (oC σ o) to i + 1) from nI_add (stI (oC σ o) to i) (1)) ?_
        refine mx_ld S X 1 (N := 972) (mW_1 _ _ _) (j := stI (oC σ o) to i + 1) (by omega) (by decide) (x := nI (fa)) ((stS_k i (by decide) _).trans ea) dX7_convertOnce_92 ?_
        refine lv_istore (lv' := [(6, .int (nI (fa))), (5, .int (nI (stI (oC σ o) to i))), (0, .ref (ad 0)), (1, .int (nI (o))), (2, .int (nI (to))), (3, .int (nI (oC σ o))), (4, .int (nI (i)))]) hx hb dX7_convertOnce_93 hl (by decide) rfl (fun ls hl => ?_)
        refine lv_aload_n hx hb dX7_convertOnce_95 rfl (lv_at hl 2 rfl) ?_
        refine hx_getL S X (ci := 7) 0 (mW_0 _ _ _) rfl hin7 1 (by decide) (by decide +kernel) rfl dX7_convertOnce_96 ?_
        refine lv_iload hx hb dX7_convertOnce_99 (lv_at hl 1 rfl) ?_
        refine lv_iconst (v := 2) hx hb dX7_convertOnce_101 (by decide) ?_
        refine lv_iadd hx hb dX7_convertOnce_102 ?_
        refine hx_ei (show _ = nI (stI (oC σ o) to i + 2) from nI_add (stI (oC σ o) to i) (2)) ?_
        refine mx_ld S X 1 (N := 972) (mW_1 _ _ _) (j := stI (oC σ o) to i + 2) (by omega) (by decide) (x := nI (fb)) ((stS_k i (by decide) _).trans eb) dX7_convertOnce_103 ?_
        refine lv_istore (lv' := [(7, .int (nI (fb))), (6, .int (nI (fa))), (5, .int (nI (stI (oC σ o) to i))), (0, .ref (ad 0)), (1, .int (nI (o))), (2, .int (nI (to))), (3, .int (nI (oC σ o))), (4, .int (nI (i)))]) hx hb dX7_convertOnce_104 hl (by decide) rfl (fun ls hl => ?_)
        refine lv_aload_n hx hb dX7_convertOnce_106 rfl (lv_at hl 3 rfl) ?_
        refine hx_getL S X (ci := 7) 0 (mW_0 _ _ _) rfl hin7 1 (by decide) (by decide +kernel) rfl dX7_convertOnce_107 ?_
        refine lv_iload hx hb dX7_convertOnce_110 (lv_at hl 2 rfl) ?_
        refine mx_ld S X 1 (N := 972) (mW_1 _ _ _) (j := stI (oC σ o) to i) (by omega) (by decide) (x := (2 : Int32)) ((stS_k i (by decide) _).trans ek) dX7_convertOnce_112 ?_
        refine lv_tableIn (off := 52) (tgt := 165) hx hb dX7_convertOnce_113 (by decide) (by decide) (by decide) (by decide) ?_
        refine lv_aload_n hx hb dX7_convertOnce_165 rfl (lv_at hl 3 rfl) ?_
        refine hx_getL S X (ci := 7) 0 (mW_0 _ _ _) rfl hin7 11 (by decide) (by decide +kernel) rfl dX7_convertOnce_166 ?_
        refine lv_iload_n hx hb dX7_convertOnce_169 rfl (lv_at hl 4 rfl) ?_
        refine lv_iload_n hx hb dX7_convertOnce_170 rfl (lv_at hl 5 rfl) ?_
        refine lv_iload hx hb dX7_convertOnce_171 (lv_at hl 0 rfl) ?_
        refine hx_Si (rest := [.ref (ad 10)]) S X (c_X7_cell l G _ (o) (to) (fb)) gX7_convertOnce_X7_cell rfl (n := 3) (by decide +kernel) rfl ⟨(Nat.le_of_ble_eq_true rfl), (Nat.le_of_ble_eq_true rfl)⟩ hl.1 rfl (Nat.le_of_ble_eq_true rfl) dX7_convertOnce_173 ⟨(Nat.le_of_ble_eq_true rfl), (Nat.le_of_ble_eq_true rfl)⟩ (fun r wd1 H locs hp X => ?_)
        obtain ⟨rfl, rfl⟩ := hp
        refine lv_aload_n hx hb dX7_convertOnce_176 rfl (lv_at hl 3 rfl) ?_
        refine hx_getL S X (ci := 7) 0 (mW_0 _ _ _) rfl hin7 11 (by decide) (by decide +kernel) rfl dX7_convertOnce_177 ?_
        refine lv_iload_n hx hb dX7_convertOnce_180 rfl (lv_at hl 4 rfl) ?_
        refine lv_iload_n hx hb dX7_convertOnce_181 rfl (lv_at hl 5 rfl) ?_
        refine lv_iload hx hb dX7_convertOnce_182 (lv_at hl 1 rfl) ?_
        refine hx_Si (rest := [.ref (ad 10), .int (nI (cel (o) (to) (fb))), .ref (ad 10)]) S X (c_X7_cell l G _ (o) (to) (fa)) gX7_convertOnce_X7_cell rfl (n := 3) (by decide +kernel) rfl ⟨(Nat.le_of_ble_eq_true rfl), (Nat.le_of_ble_eq_true rfl)⟩ hl.1 rfl (Nat.le_of_ble_eq_true rfl) dX7_convertOnce_184 ⟨(Nat.le_of_ble_eq_true rfl), (Nat.le_of_ble_eq_true rfl)⟩ (fun r wd1 H locs hp X => ?_)
        obtain ⟨rfl, rfl⟩ := hp
        refine mx_ld S X 10 (N := 1536) (mW_10 _ _ _) (j := cel (o) (to) (fa)) (by unfold cel; omega) (by decide) (x := (stS σ o to (oC σ o) i).2 10 (cel (o) (to) (fa))) (rfl) dX7_convertOnce_187 ?_
        refine mx_st S X 10 (N := 1536) (mW_10 _ _ _) (j := cel (o) (to) (fb)) (by unfold cel; omega) (by decide) (x := (stS σ o to (oC σ o) i).2 10 (cel (o) (to) (fa))) dX7_convertOnce_188 (mW_s10 _ _ _ _ _) (fun H locs X => ?_)
        refine lv_goto (tgt := 287) hx hb dX7_convertOnce_189 (by decide) ?_
        refine lv_aload_n hx hb dX7_convertOnce_287 rfl (lv_at hl 3 rfl) ?_
        refine hx_getL S X (ci := 7) 0 (mW_0 _ _ _) rfl hin7 1 (by decide) (by decide +kernel) rfl dX7_convertOnce_288 ?_
        refine lv_iload hx hb dX7_convertOnce_291 (lv_at hl 2 rfl) ?_
        refine mx_ld S X 1 (N := 972) (mW_1 _ _ _) (j := stI (oC σ o) to i) (by omega) (by decide) (x := (2 : Int32)) (by rw [mS_nk _ _ _ _ (by decide)]; exact (stS_k i (by decide) _).trans ek) dX7_convertOnce_293 ?_
        refine lv_iconst (v := 2) hx hb dX7_convertOnce_294 (by decide) ?_
        refine lv_icmp_eq (tgt := 309) hx hb dX7_convertOnce_295 (by decide) (fun _ => ?_) (fun c9 => absurd (by decide) c9)
        refine lv_iload hx hb dX7_convertOnce_309 (lv_at hl 0 rfl) ?_
        refine lv_goto (tgt := 316) hx hb dX7_convertOnce_311 (by decide) ?_
        refine lv_istore (lv' := [(8, .int (nI (fb))), (7, .int (nI (fb))), (6, .int (nI (fa))), (5, .int (nI (stI (oC σ o) to i))), (0, .ref (ad 0)), (1, .int (nI (o))), (2, .int (nI (to))), (3, .int (nI (oC σ o))), (4, .int (nI (i)))]) hx hb dX7_convertOnce_316 hl (by decide) rfl (fun ls hl => ?_)
        refine lv_aload_n hx hb dX7_convertOnce_318 rfl (lv_at hl 4 rfl) ?_
        refine hx_getL S X (ci := 7) 0 (mW_0 _ _ _) rfl hin7 11 (by decide) (by decide +kernel) rfl dX7_convertOnce_319 ?_
        refine lv_iload_n hx hb dX7_convertOnce_322 rfl (lv_at hl 5 rfl) ?_
        refine lv_iload_n hx hb dX7_convertOnce_323 rfl (lv_at hl 6 rfl) ?_
        refine lv_iload hx hb dX7_convertOnce_324 (lv_at hl 0 rfl) ?_
        refine hx_Si (rest := [.ref (ad 10)]) S X (c_X7_cell l G _ (o) (to) (fb)) gX7_convertOnce_X7_cell rfl (n := 3) (by decide +kernel) rfl ⟨(Nat.le_of_ble_eq_true rfl), (Nat.le_of_ble_eq_true rfl)⟩ hl.1 rfl (Nat.le_of_ble_eq_true rfl) dX7_convertOnce_326 ⟨(Nat.le_of_ble_eq_true rfl), (Nat.le_of_ble_eq_true rfl)⟩ (fun r wd1 H locs hp X => ?_)
        obtain ⟨rfl, rfl⟩ := hp
        refine mx_ld S X 10 (N := 1536) (mW_10 _ _ _) (j := cel (o) (to) (fb)) (by unfold cel; omega) (by decide) (x := (stS σ o to (oC σ o) i).2 10 (cel (o) (to) (fa))) (by rw [mS_eq]) dX7_convertOnce_329 ?_
        refine lv_ldc (v := -1000000) hx hb hown (hts (Cond.constant RX7 76 (-1000000)) (by decide +kernel)) dX7_convertOnce_330 ?_
        refine lv_ldc (v := 1000000) hx hb hown (hts (Cond.constant RX7 77 (1000000)) (by decide +kernel)) dX7_convertOnce_332 ?_
        refine hx_Si (rest := []) S X (c_X7_in l G _ ((stS σ o to (oC σ o) i).2 10 (cel (o) (to) (fa))) ((-1000000 : Int32)) ((1000000 : Int32))) gX7_convertOnce_X7_in rfl (n := 3) (by decide +kernel) rfl ⟨(Nat.le_of_ble_eq_true rfl), (Nat.le_of_ble_eq_true rfl)⟩ hl.1 rfl (Nat.le_of_ble_eq_true rfl) dX7_convertOnce_334 ⟨(Nat.le_of_ble_eq_true rfl), (Nat.le_of_ble_eq_true rfl)⟩ (fun r wd1 H locs hp X => ?_)
        obtain ⟨hr334, rfl⟩ := hp
        by_cases h334 : isVal ((stS σ o to (oC σ o) i).2 10 (cel (o) (to) (fa)))
        · skip
          refine hx_ei (hr334.1 h334) ?_
          refine lv_if_ne (tgt := 342) hx hb dX7_convertOnce_337 (by decide) (fun _ => ?_) (fun c9 => absurd c9 (by decide))
          refine lv_iinc (v := nI (i + 1)) (lv' := [(4, .int (nI (i + 1))), (8, .int (nI (fb))), (7, .int (nI (fb))), (6, .int (nI (fa))), (5, .int (nI (stI (oC σ o) to i))), (0, .ref (ad 0)), (1, .int (nI (o))), (2, .int (nI (to))), (3, .int (nI (oC σ o)))]) hx hb dX7_convertOnce_342 hl (k := 8) rfl (nI_add (i) 1) (by decide) rfl (fun ls hl => ?_)
          refine lv_goto (tgt := 52) hx hb dX7_convertOnce_345 (by decide) ?_
          have hS := stS_yes (s' := (mS (stS σ o to (oC σ o) i).2 10 (cel (o) (to) (fb)) ((stS σ o to (oC σ o) i).2 10 (cel (o) (to) (fa))))) hv (by rw [ek, ea, eb]; simp [stepS, cfa, cfb]) (by rw [ek, ea, eb, show chgF 2 (nI fa) (nI fb) = fb from by simp [chgF, cfa, cfb]]; rw [mS_eq]; exact h334)
          exact ih (i + 1) (by omega) (by rw [hS]) _ _ _ (X.to (congrArg (mW G ad) (show _ = (stS σ o to (oC σ o) (i + 1)).2 from by rw [hS]))) (lv_sub hl [5, 6, 7, 8, 0] rfl)
        · skip
          refine hx_ei (hr334.2 h334) ?_
          refine lv_if_ne (tgt := 342) hx hb dX7_convertOnce_337 (by decide) (fun c9 => absurd (by decide) c9) (fun _ => ?_)
          refine lv_iconst (v := 0) hx hb dX7_convertOnce_340 (by decide) ?_
          have hS := stS_no (s' := (mS (stS σ o to (oC σ o) i).2 10 (cel (o) (to) (fb)) ((stS σ o to (oC σ o) i).2 10 (cel (o) (to) (fa))))) hv (by rw [ek, ea, eb]; simp [stepS, cfa, cfb]) (by rw [ek, ea, eb, show chgF 2 (nI fa) (nI fb) = fb from by simp [chgF, cfa, cfb]]; rw [mS_eq]; exact h334)
          have hM : M_once σ o to = (false, (mS (stS σ o to (oC σ o) i).2 10 (cel (o) (to) (fb)) ((stS σ o to (oC σ o) i).2 10 (cel (o) (to) (fa))))) := by rw [M_once, show stp σ (oC σ o) to = (i + 1) + (stp σ (oC σ o) to - (i + 1)) by omega, stS_stop (by rw [hS]; simp), hS]
          exact hx_zret S X hr hlk (Nat.le_of_ble_eq_true rfl) (Nat.le_of_ble_eq_true rfl) (by decide) ⟨isB_f (by rw [hM]; simp) rfl, by rw [hM]⟩ dX7_convertOnce_341
      · skip
        have ek : σ 1 (stI (oC σ o) to i) = 3 := ek
        refine lv_iload hx hb dX7_convertOnce_52 (lv_at hl 4 rfl) ?_
        refine lv_aload_n hx hb dX7_convertOnce_54 rfl (lv_at hl 0 rfl) ?_
        refine lv_iload_n hx hb dX7_convertOnce_55 rfl (lv_at hl 3 rfl) ?_
        refine lv_bipush (v := 10) hx hb dX7_convertOnce_56 (by decide) ?_
        refine lv_iload_n hx hb dX7_convertOnce_58 rfl (lv_at hl 2 rfl) ?_
        refine lv_iadd hx hb dX7_convertOnce_59 ?_
        refine hx_ei (show _ = nI (10 + to) from nI_add (10) (to)) ?_
        refine hx_Vi (rest := [.int (nI (i))]) S X (c_X7_of l G ad (stS σ o to (oC σ o) i).2 (oC σ o) (10 + to) (by omega)) gX7_convertOnce_X7_of rfl (n := 2) (by decide +kernel) rfl ⟨(Nat.le_of_ble_eq_true rfl), (Nat.le_of_ble_eq_true rfl)⟩ (hx_recvL (q0 := 0) (ci := 7) X rfl (mW_0 _ _ _)) hl.1 rfl (Nat.le_of_ble_eq_true rfl) dX7_convertOnce_60 ⟨(Nat.le_of_ble_eq_true rfl), (Nat.le_of_ble_eq_true rfl)⟩ (fun r wd1 H locs hp X => ?_)
        obtain ⟨rfl, rfl⟩ := hp
        refine hx_ei (show _ = nI (stp σ (oC σ o) to) from (stS_k i (by decide) _).trans hn0) ?_
        refine lv_icmp_ge (tgt := 348) hx hb dX7_convertOnce_63 (by decide) (fun c9 => absurd c9 (nI_ge (a := i) (b := stp σ (oC σ o) to) (by omega) (by omega))) (fun _ => ?_)
        refine lv_iload_n hx hb dX7_convertOnce_66 rfl (lv_at hl 3 rfl) ?_
        refine lv_bipush (v := 18) hx hb dX7_convertOnce_67 (by decide) ?_
        refine lv_bipush (v := 18) hx hb dX7_convertOnce_69 (by decide) ?_
        refine lv_iload_n hx hb dX7_convertOnce_71 rfl (lv_at hl 2 rfl) ?_
        refine lv_imul hx hb dX7_convertOnce_72 ?_
        refine hx_ei (show _ = nI ((18) * (to)) from pk_mul (18) (to)) ?_
        refine lv_iadd hx hb dX7_convertOnce_73 ?_
        refine hx_ei (show _ = nI (18 + (18) * (to)) from nI_add (18) ((18) * (to))) ?_
        refine lv_iconst (v := 3) hx hb dX7_convertOnce_74 (by decide) ?_
        refine lv_iload hx hb dX7_convertOnce_75 (lv_at hl 4 rfl) ?_
        refine lv_imul hx hb dX7_convertOnce_77 ?_
        refine hx_ei (show _ = nI ((3) * (i)) from pk_mul (3) (i)) ?_
        refine lv_iadd hx hb dX7_convertOnce_78 ?_
        refine hx_ei (show _ = nI (18 + (18) * (to) + (3) * (i)) from nI_add (18 + (18) * (to)) ((3) * (i))) ?_
        refine hx_Si (rest := []) S X (c_X7_at l G _ (oC σ o) (18 + (18) * (to) + (3) * (i))) gX7_convertOnce_X7_at rfl (n := 2) (by decide +kernel) rfl ⟨(Nat.le_of_ble_eq_true rfl), (Nat.le_of_ble_eq_true rfl)⟩ hl.1 rfl (Nat.le_of_ble_eq_true rfl) dX7_convertOnce_79 ⟨(Nat.le_of_ble_eq_true rfl), (Nat.le_of_ble_eq_true rfl)⟩ (fun r wd1 H locs hp X => ?_)
        obtain ⟨rfl, rfl⟩ := hp
        refine hx_ei (show _ = nI (stI (oC σ o) to i) from rfl) ?_
        refine lv_istore (lv' := [(5, .int (nI (stI (oC σ o) to i))), (0, .ref (ad 0)), (1, .int (nI (o))), (2, .int (nI (to))), (3, .int (nI (oC σ o))), (4, .int (nI (i)))]) hx hb dX7_convertOnce_82 hl (by decide) rfl (fun ls hl => ?_)
        refine lv_aload_n hx hb dX7_convertOnce_84 rfl (lv_at hl 1 rfl) ?_
        refine hx_getL S X (ci := 7) 0 (mW_0 _ _ _) rfl hin7 1 (by decide) (by decide +kernel) rfl dX7_convertOnce_85 ?_
        refine lv_iload hx hb dX7_convertOnce_88 (lv_at hl 0 rfl) ?_
        refine lv_iconst (v := 1) hx hb dX7_convertOnce_90 (by decide) ?_
        refine lv_iadd hx hb dX7_convertOnce_91 ?_
        refine hx_ei (show _ = nI (stI (oC σ o) to i + 1) from nI_add (stI (oC σ o) to i) (1)) ?_
        refine mx_ld S X 1 (N := 972) (mW_1 _ _ _) (j := stI (oC σ o) to i + 1) (by omega) (by decide) (x := nI (fa)) ((stS_k i (by decide) _).trans ea) dX7_convertOnce_92 ?_
        refine lv_istore (lv' := [(6, .int (nI (fa))), (5, .int (nI (stI (oC σ o) to i))), (0, .ref (ad 0)), (1, .int (nI (o))), (2, .int (nI (to))), (3, .int (nI (oC σ o))), (4, .int (nI (i)))]) hx hb dX7_convertOnce_93 hl (by decide) rfl (fun ls hl => ?_)
        refine lv_aload_n hx hb dX7_convertOnce_95 rfl (lv_at hl 2 rfl) ?_
        refine hx_getL S X (ci := 7) 0 (mW_0 _ _ _) rfl hin7 1 (by decide) (by decide +kernel) rfl dX7_convertOnce_96 ?_
        refine lv_iload hx hb dX7_convertOnce_99 (lv_at hl 1 rfl) ?_
        refine lv_iconst (v := 2) hx hb dX7_convertOnce_101 (by decide) ?_
        refine lv_iadd hx hb dX7_convertOnce_102 ?_
        refine hx_ei (show _ = nI (stI (oC σ o) to i + 2) from nI_add (stI (oC σ o) to i) (2)) ?_
        refine mx_ld S X 1 (N := 972) (mW_1 _ _ _) (j := stI (oC σ o) to i + 2) (by omega) (by decide) (x := σ 1 (stI (oC σ o) to i + 2)) ((stS_k i (by decide) _)) dX7_convertOnce_103 ?_
        refine lv_istore (lv' := [(7, .int (σ 1 (stI (oC σ o) to i + 2))), (6, .int (nI (fa))), (5, .int (nI (stI (oC σ o) to i))), (0, .ref (ad 0)), (1, .int (nI (o))), (2, .int (nI (to))), (3, .int (nI (oC σ o))), (4, .int (nI (i)))]) hx hb dX7_convertOnce_104 hl (by decide) rfl (fun ls hl => ?_)
        refine lv_aload_n hx hb dX7_convertOnce_106 rfl (lv_at hl 3 rfl) ?_
        refine hx_getL S X (ci := 7) 0 (mW_0 _ _ _) rfl hin7 1 (by decide) (by decide +kernel) rfl dX7_convertOnce_107 ?_
        refine lv_iload hx hb dX7_convertOnce_110 (lv_at hl 2 rfl) ?_
        refine mx_ld S X 1 (N := 972) (mW_1 _ _ _) (j := stI (oC σ o) to i) (by omega) (by decide) (x := (3 : Int32)) ((stS_k i (by decide) _).trans ek) dX7_convertOnce_112 ?_
        refine lv_tableIn (off := 79) (tgt := 192) hx hb dX7_convertOnce_113 (by decide) (by decide) (by decide) (by decide) ?_
        refine lv_aload_n hx hb dX7_convertOnce_192 rfl (lv_at hl 3 rfl) ?_
        refine hx_getL S X (ci := 7) 0 (mW_0 _ _ _) rfl hin7 11 (by decide) (by decide +kernel) rfl dX7_convertOnce_193 ?_
        refine lv_iload_n hx hb dX7_convertOnce_196 rfl (lv_at hl 4 rfl) ?_
        refine lv_iload_n hx hb dX7_convertOnce_197 rfl (lv_at hl 5 rfl) ?_
        refine lv_iload hx hb dX7_convertOnce_198 (lv_at hl 1 rfl) ?_
        refine hx_Si (rest := [.ref (ad 10)]) S X (c_X7_cell l G _ (o) (to) (fa)) gX7_convertOnce_X7_cell rfl (n := 3) (by decide +kernel) rfl ⟨(Nat.le_of_ble_eq_true rfl), (Nat.le_of_ble_eq_true rfl)⟩ hl.1 rfl (Nat.le_of_ble_eq_true rfl) dX7_convertOnce_200 ⟨(Nat.le_of_ble_eq_true rfl), (Nat.le_of_ble_eq_true rfl)⟩ (fun r wd1 H locs hp X => ?_)
        obtain ⟨rfl, rfl⟩ := hp
        refine mx_ld S X 10 (N := 1536) (mW_10 _ _ _) (j := cel (o) (to) (fa)) (by unfold cel; omega) (by decide) (x := (stS σ o to (oC σ o) i).2 10 (cel (o) (to) (fa))) (rfl) dX7_convertOnce_203 ?_
        refine lv_i2l (v := ((stS σ o to (oC σ o) i).2 10 (cel (o) (to) (fa)) : Int32).toInt64) hx hb dX7_convertOnce_204 rfl ?_
        refine lv_iload hx hb dX7_convertOnce_205 (lv_at hl 0 rfl) ?_
        refine lv_i2l (v := (σ 1 (stI (oC σ o) to i + 2) : Int32).toInt64) hx hb dX7_convertOnce_207 rfl ?_
        refine lv_lmul hx hb dX7_convertOnce_208 ?_
        refine lv_topl (fun y1 ey1 => ?_)
        refine lv_lstore (lv' := [(8, .long (y1)), (7, .int (σ 1 (stI (oC σ o) to i + 2))), (6, .int (nI (fa))), (5, .int (nI (stI (oC σ o) to i))), (0, .ref (ad 0)), (1, .int (nI (o))), (2, .int (nI (to))), (3, .int (nI (oC σ o))), (4, .int (nI (i)))]) hx hb dX7_convertOnce_209 hl (by decide) rfl (fun ls hl => ?_)
        refine lv_aload_n hx hb dX7_convertOnce_211 rfl (lv_at hl 4 rfl) ?_
        refine hx_getL S X (ci := 7) 0 (mW_0 _ _ _) rfl hin7 11 (by decide) (by decide +kernel) rfl dX7_convertOnce_212 ?_
        refine lv_iload_n hx hb dX7_convertOnce_215 rfl (lv_at hl 5 rfl) ?_
        refine lv_iload_n hx hb dX7_convertOnce_216 rfl (lv_at hl 6 rfl) ?_
        refine lv_iload hx hb dX7_convertOnce_217 (lv_at hl 2 rfl) ?_
        refine hx_Si (rest := [.ref (ad 10)]) S X (c_X7_cell l G _ (o) (to) (fa)) gX7_convertOnce_X7_cell rfl (n := 3) (by decide +kernel) rfl ⟨(Nat.le_of_ble_eq_true rfl), (Nat.le_of_ble_eq_true rfl)⟩ hl.1 rfl (Nat.le_of_ble_eq_true rfl) dX7_convertOnce_219 ⟨(Nat.le_of_ble_eq_true rfl), (Nat.le_of_ble_eq_true rfl)⟩ (fun r wd1 H locs hp X => ?_)
        obtain ⟨rfl, rfl⟩ := hp
        refine lv_lload hx hb dX7_convertOnce_222 (lv_at hl 0 rfl) ?_
        refine lv_ldc2 (v := 1000000) hx hb hown (hts (Cond.constantLong RX7 112 (1000000)) (by decide +kernel)) dX7_convertOnce_224 ?_
        refine W.lcmp hx hb dX7_convertOnce_227 ?_
        refine lv_if_le (tgt := 236) hx hb dX7_convertOnce_228 (by decide) (fun c228 => ?_) (fun c228 => ?_)
        · skip
          refine lv_lload hx hb dX7_convertOnce_236 (lv_at hl 0 rfl) ?_
          refine lv_ldc2 (v := -1000000) hx hb hown (hts (Cond.constantLong RX7 115 (-1000000)) (by decide +kernel)) dX7_convertOnce_238 ?_
          refine W.lcmp hx hb dX7_convertOnce_241 ?_
          refine lv_if_ge (tgt := 250) hx hb dX7_convertOnce_242 (by decide) (fun c242 => ?_) (fun c242 => ?_)
          · skip
            refine lv_lload hx hb dX7_convertOnce_250 (lv_at hl 0 rfl) ?_
            refine lv_l2i (v := (y1 : Int64).toInt32) hx hb dX7_convertOnce_252 rfl ?_
            refine mx_st S X 10 (N := 1536) (mW_10 _ _ _) (j := cel (o) (to) (fa)) (by unfold cel; omega) (by decide) (x := (y1 : Int64).toInt32) dX7_convertOnce_253 (mW_s10 _ _ _ _ _) (fun H locs X => ?_)
            refine lv_goto (tgt := 287) hx hb dX7_convertOnce_254 (by decide) ?_
            refine lv_aload_n hx hb dX7_convertOnce_287 rfl (lv_at hl 4 rfl) ?_
            refine hx_getL S X (ci := 7) 0 (mW_0 _ _ _) rfl hin7 1 (by decide) (by decide +kernel) rfl dX7_convertOnce_288 ?_
            refine lv_iload hx hb dX7_convertOnce_291 (lv_at hl 3 rfl) ?_
            refine mx_ld S X 1 (N := 972) (mW_1 _ _ _) (j := stI (oC σ o) to i) (by omega) (by decide) (x := (3 : Int32)) (by rw [mS_nk _ _ _ _ (by decide)]; exact (stS_k i (by decide) _).trans ek) dX7_convertOnce_293 ?_
            refine lv_iconst (v := 2) hx hb dX7_convertOnce_294 (by decide) ?_
            refine lv_icmp_eq (tgt := 309) hx hb dX7_convertOnce_295 (by decide) (fun c9 => absurd c9 (by decide)) (fun _ => ?_)
            refine lv_aload_n hx hb dX7_convertOnce_298 rfl (lv_at hl 4 rfl) ?_
            refine hx_getL S X (ci := 7) 0 (mW_0 _ _ _) rfl hin7 1 (by decide) (by decide +kernel) rfl dX7_convertOnce_299 ?_
            refine lv_iload hx hb dX7_convertOnce_302 (lv_at hl 3 rfl) ?_
            refine mx_ld S X 1 (N := 972) (mW_1 _ _ _) (j := stI (oC σ o) to i) (by omega) (by decide) (x := (3 : Int32)) (by rw [mS_nk _ _ _ _ (by decide)]; exact (stS_k i (by decide) _).trans ek) dX7_convertOnce_304 ?_
            refine lv_iconst (v := 4) hx hb dX7_convertOnce_305 (by decide) ?_
            refine lv_icmp_ne (tgt := 314) hx hb dX7_convertOnce_306 (by decide) (fun _ => ?_) (fun c9 => absurd c9 (by decide))
            refine lv_iload hx hb dX7_convertOnce_314 (lv_at hl 2 rfl) ?_
            refine lv_istore (lv' := [(8, .int (nI (fa))), (7, .int (σ 1 (stI (oC σ o) to i + 2))), (6, .int (nI (fa))), (5, .int (nI (stI (oC σ o) to i))), (0, .ref (ad 0)), (1, .int (nI (o))), (2, .int (nI (to))), (3, .int (nI (oC σ o))), (4, .int (nI (i)))]) hx hb dX7_convertOnce_316 hl (by decide) rfl (fun ls hl => ?_)
            refine lv_aload_n hx hb dX7_convertOnce_318 rfl (lv_at hl 4 rfl) ?_
            refine hx_getL S X (ci := 7) 0 (mW_0 _ _ _) rfl hin7 11 (by decide) (by decide +kernel) rfl dX7_convertOnce_319 ?_
            refine lv_iload_n hx hb dX7_convertOnce_322 rfl (lv_at hl 5 rfl) ?_
            refine lv_iload_n hx hb dX7_convertOnce_323 rfl (lv_at hl 6 rfl) ?_
            refine lv_iload hx hb dX7_convertOnce_324 (lv_at hl 0 rfl) ?_
            refine hx_Si (rest := [.ref (ad 10)]) S X (c_X7_cell l G _ (o) (to) (fa)) gX7_convertOnce_X7_cell rfl (n := 3) (by decide +kernel) rfl ⟨(Nat.le_of_ble_eq_true rfl), (Nat.le_of_ble_eq_true rfl)⟩ hl.1 rfl (Nat.le_of_ble_eq_true rfl) dX7_convertOnce_326 ⟨(Nat.le_of_ble_eq_true rfl), (Nat.le_of_ble_eq_true rfl)⟩ (fun r wd1 H locs hp X => ?_)
            obtain ⟨rfl, rfl⟩ := hp
            refine mx_ld S X 10 (N := 1536) (mW_10 _ _ _) (j := cel (o) (to) (fa)) (by unfold cel; omega) (by decide) (x := (y1 : Int64).toInt32) (by rw [mS_eq]) dX7_convertOnce_329 ?_
            refine lv_ldc (v := -1000000) hx hb hown (hts (Cond.constant RX7 76 (-1000000)) (by decide +kernel)) dX7_convertOnce_330 ?_
            refine lv_ldc (v := 1000000) hx hb hown (hts (Cond.constant RX7 77 (1000000)) (by decide +kernel)) dX7_convertOnce_332 ?_
            refine hx_Si (rest := []) S X (c_X7_in l G _ ((y1 : Int64).toInt32) ((-1000000 : Int32)) ((1000000 : Int32))) gX7_convertOnce_X7_in rfl (n := 3) (by decide +kernel) rfl ⟨(Nat.le_of_ble_eq_true rfl), (Nat.le_of_ble_eq_true rfl)⟩ hl.1 rfl (Nat.le_of_ble_eq_true rfl) dX7_convertOnce_334 ⟨(Nat.le_of_ble_eq_true rfl), (Nat.le_of_ble_eq_true rfl)⟩ (fun r wd1 H locs hp X => ?_)
            obtain ⟨hr334, rfl⟩ := hp
            by_cases h334 : isVal ((y1 : Int64).toInt32)
            · skip
              refine hx_ei (hr334.1 h334) ?_
              refine lv_if_ne (tgt := 342) hx hb dX7_convertOnce_337 (by decide) (fun _ => ?_) (fun c9 => absurd c9 (by decide))
              refine lv_iinc (v := nI (i + 1)) (lv' := [(4, .int (nI (i + 1))), (8, .int (nI (fa))), (7, .int (σ 1 (stI (oC σ o) to i + 2))), (6, .int (nI (fa))), (5, .int (nI (stI (oC σ o) to i))), (0, .ref (ad 0)), (1, .int (nI (o))), (2, .int (nI (to))), (3, .int (nI (oC σ o)))]) hx hb dX7_convertOnce_342 hl (k := 8) rfl (nI_add (i) 1) (by decide) rfl (fun ls hl => ?_)
              refine lv_goto (tgt := 52) hx hb dX7_convertOnce_345 (by decide) ?_
              have hS := stS_yes (s' := (mS (stS σ o to (oC σ o) i).2 10 (cel (o) (to) (fa)) ((y1 : Int64).toInt32))) hv (by rw [ek, ea, stepS_3, cfa, ← ey1, sclR, if_neg (Int32.not_lt.mpr c228), if_neg (Int32.not_lt.mpr c242)]) (by rw [ek, ea, show chgF 3 (nI fa) _ = fa from by simp [chgF, cfa]]; rw [mS_eq]; exact h334)
              exact ih (i + 1) (by omega) (by rw [hS]) _ _ _ (X.to (congrArg (mW G ad) (show _ = (stS σ o to (oC σ o) (i + 1)).2 from by rw [hS]))) (lv_sub hl [5, 6, 7, 8, 0] rfl)
            · skip
              refine hx_ei (hr334.2 h334) ?_
              refine lv_if_ne (tgt := 342) hx hb dX7_convertOnce_337 (by decide) (fun c9 => absurd (by decide) c9) (fun _ => ?_)
              refine lv_iconst (v := 0) hx hb dX7_convertOnce_340 (by decide) ?_
              have hS := stS_no (s' := (mS (stS σ o to (oC σ o) i).2 10 (cel (o) (to) (fa)) ((y1 : Int64).toInt32))) hv (by rw [ek, ea, stepS_3, cfa, ← ey1, sclR, if_neg (Int32.not_lt.mpr c228), if_neg (Int32.not_lt.mpr c242)]) (by rw [ek, ea, show chgF 3 (nI fa) _ = fa from by simp [chgF, cfa]]; rw [mS_eq]; exact h334)
              have hM : M_once σ o to = (false, (mS (stS σ o to (oC σ o) i).2 10 (cel (o) (to) (fa)) ((y1 : Int64).toInt32))) := by rw [M_once, show stp σ (oC σ o) to = (i + 1) + (stp σ (oC σ o) to - (i + 1)) by omega, stS_stop (by rw [hS]; simp), hS]
              exact hx_zret S X hr hlk (Nat.le_of_ble_eq_true rfl) (Nat.le_of_ble_eq_true rfl) (by decide) ⟨isB_f (by rw [hM]; simp) rfl, by rw [hM]⟩ dX7_convertOnce_341
          · skip
            refine lv_ldc (v := -1000001) hx hb hown (hts (Cond.constant RX7 117 (-1000001)) (by decide +kernel)) dX7_convertOnce_245 ?_
            refine lv_goto (tgt := 253) hx hb dX7_convertOnce_247 (by decide) ?_
            refine mx_st S X 10 (N := 1536) (mW_10 _ _ _) (j := cel (o) (to) (fa)) (by unfold cel; omega) (by decide) (x := (-1000001 : Int32)) dX7_convertOnce_253 (mW_s10 _ _ _ _ _) (fun H locs X => ?_)
            refine lv_goto (tgt := 287) hx hb dX7_convertOnce_254 (by decide) ?_
            refine lv_aload_n hx hb dX7_convertOnce_287 rfl (lv_at hl 4 rfl) ?_
            refine hx_getL S X (ci := 7) 0 (mW_0 _ _ _) rfl hin7 1 (by decide) (by decide +kernel) rfl dX7_convertOnce_288 ?_
            refine lv_iload hx hb dX7_convertOnce_291 (lv_at hl 3 rfl) ?_
            refine mx_ld S X 1 (N := 972) (mW_1 _ _ _) (j := stI (oC σ o) to i) (by omega) (by decide) (x := (3 : Int32)) (by rw [mS_nk _ _ _ _ (by decide)]; exact (stS_k i (by decide) _).trans ek) dX7_convertOnce_293 ?_
            refine lv_iconst (v := 2) hx hb dX7_convertOnce_294 (by decide) ?_
            refine lv_icmp_eq (tgt := 309) hx hb dX7_convertOnce_295 (by decide) (fun c9 => absurd c9 (by decide)) (fun _ => ?_)
            refine lv_aload_n hx hb dX7_convertOnce_298 rfl (lv_at hl 4 rfl) ?_
            refine hx_getL S X (ci := 7) 0 (mW_0 _ _ _) rfl hin7 1 (by decide) (by decide +kernel) rfl dX7_convertOnce_299 ?_
            refine lv_iload hx hb dX7_convertOnce_302 (lv_at hl 3 rfl) ?_
            refine mx_ld S X 1 (N := 972) (mW_1 _ _ _) (j := stI (oC σ o) to i) (by omega) (by decide) (x := (3 : Int32)) (by rw [mS_nk _ _ _ _ (by decide)]; exact (stS_k i (by decide) _).trans ek) dX7_convertOnce_304 ?_
            refine lv_iconst (v := 4) hx hb dX7_convertOnce_305 (by decide) ?_
            refine lv_icmp_ne (tgt := 314) hx hb dX7_convertOnce_306 (by decide) (fun _ => ?_) (fun c9 => absurd c9 (by decide))
            refine lv_iload hx hb dX7_convertOnce_314 (lv_at hl 2 rfl) ?_
            refine lv_istore (lv' := [(8, .int (nI (fa))), (7, .int (σ 1 (stI (oC σ o) to i + 2))), (6, .int (nI (fa))), (5, .int (nI (stI (oC σ o) to i))), (0, .ref (ad 0)), (1, .int (nI (o))), (2, .int (nI (to))), (3, .int (nI (oC σ o))), (4, .int (nI (i)))]) hx hb dX7_convertOnce_316 hl (by decide) rfl (fun ls hl => ?_)
            refine lv_aload_n hx hb dX7_convertOnce_318 rfl (lv_at hl 4 rfl) ?_
            refine hx_getL S X (ci := 7) 0 (mW_0 _ _ _) rfl hin7 11 (by decide) (by decide +kernel) rfl dX7_convertOnce_319 ?_
            refine lv_iload_n hx hb dX7_convertOnce_322 rfl (lv_at hl 5 rfl) ?_
            refine lv_iload_n hx hb dX7_convertOnce_323 rfl (lv_at hl 6 rfl) ?_
            refine lv_iload hx hb dX7_convertOnce_324 (lv_at hl 0 rfl) ?_
            refine hx_Si (rest := [.ref (ad 10)]) S X (c_X7_cell l G _ (o) (to) (fa)) gX7_convertOnce_X7_cell rfl (n := 3) (by decide +kernel) rfl ⟨(Nat.le_of_ble_eq_true rfl), (Nat.le_of_ble_eq_true rfl)⟩ hl.1 rfl (Nat.le_of_ble_eq_true rfl) dX7_convertOnce_326 ⟨(Nat.le_of_ble_eq_true rfl), (Nat.le_of_ble_eq_true rfl)⟩ (fun r wd1 H locs hp X => ?_)
            obtain ⟨rfl, rfl⟩ := hp
            refine mx_ld S X 10 (N := 1536) (mW_10 _ _ _) (j := cel (o) (to) (fa)) (by unfold cel; omega) (by decide) (x := (-1000001 : Int32)) (by rw [mS_eq]) dX7_convertOnce_329 ?_
            refine lv_ldc (v := -1000000) hx hb hown (hts (Cond.constant RX7 76 (-1000000)) (by decide +kernel)) dX7_convertOnce_330 ?_
            refine lv_ldc (v := 1000000) hx hb hown (hts (Cond.constant RX7 77 (1000000)) (by decide +kernel)) dX7_convertOnce_332 ?_
            refine hx_Si (rest := []) S X (c_X7_in l G _ ((-1000001 : Int32)) ((-1000000 : Int32)) ((1000000 : Int32))) gX7_convertOnce_X7_in rfl (n := 3) (by decide +kernel) rfl ⟨(Nat.le_of_ble_eq_true rfl), (Nat.le_of_ble_eq_true rfl)⟩ hl.1 rfl (Nat.le_of_ble_eq_true rfl) dX7_convertOnce_334 ⟨(Nat.le_of_ble_eq_true rfl), (Nat.le_of_ble_eq_true rfl)⟩ (fun r wd1 H locs hp X => ?_)
            obtain ⟨hr334, rfl⟩ := hp
            by_cases h334 : isVal ((-1000001 : Int32))
            · skip
              refine hx_ei (hr334.1 h334) ?_
              refine lv_if_ne (tgt := 342) hx hb dX7_convertOnce_337 (by decide) (fun _ => ?_) (fun c9 => absurd c9 (by decide))
              refine lv_iinc (v := nI (i + 1)) (lv' := [(4, .int (nI (i + 1))), (8, .int (nI (fa))), (7, .int (σ 1 (stI (oC σ o) to i + 2))), (6, .int (nI (fa))), (5, .int (nI (stI (oC σ o) to i))), (0, .ref (ad 0)), (1, .int (nI (o))), (2, .int (nI (to))), (3, .int (nI (oC σ o)))]) hx hb dX7_convertOnce_342 hl (k := 8) rfl (nI_add (i) 1) (by decide) rfl (fun ls hl => ?_)
              refine lv_goto (tgt := 52) hx hb dX7_convertOnce_345 (by decide) ?_
              have hS := stS_yes (s' := (mS (stS σ o to (oC σ o) i).2 10 (cel (o) (to) (fa)) ((-1000001 : Int32)))) hv (by rw [ek, ea, stepS_3, cfa, ← ey1, sclR, if_neg (Int32.not_lt.mpr c228), if_pos (Int32.not_le.mp c242)]) (by rw [ek, ea, show chgF 3 (nI fa) _ = fa from by simp [chgF, cfa]]; rw [mS_eq]; exact h334)
              exact ih (i + 1) (by omega) (by rw [hS]) _ _ _ (X.to (congrArg (mW G ad) (show _ = (stS σ o to (oC σ o) (i + 1)).2 from by rw [hS]))) (lv_sub hl [5, 6, 7, 8, 0] rfl)
            · skip
              refine hx_ei (hr334.2 h334) ?_
              refine lv_if_ne (tgt := 342) hx hb dX7_convertOnce_337 (by decide) (fun c9 => absurd (by decide) c9) (fun _ => ?_)
              refine lv_iconst (v := 0) hx hb dX7_convertOnce_340 (by decide) ?_
              have hS := stS_no (s' := (mS (stS σ o to (oC σ o) i).2 10 (cel (o) (to) (fa)) ((-1000001 : Int32)))) hv (by rw [ek, ea, stepS_3, cfa, ← ey1, sclR, if_neg (Int32.not_lt.mpr c228), if_pos (Int32.not_le.mp c242)]) (by rw [ek, ea, show chgF 3 (nI fa) _ = fa from by simp [chgF, cfa]]; rw [mS_eq]; exact h334)
              have hM : M_once σ o to = (false, (mS (stS σ o to (oC σ o) i).2 10 (cel (o) (to) (fa)) ((-1000001 : Int32)))) := by rw [M_once, show stp σ (oC σ o) to = (i + 1) + (stp σ (oC σ o) to - (i + 1)) by omega, stS_stop (by rw [hS]; simp), hS]
              exact hx_zret S X hr hlk (Nat.le_of_ble_eq_true rfl) (Nat.le_of_ble_eq_true rfl) (by decide) ⟨isB_f (by rw [hM]; simp) rfl, by rw [hM]⟩ dX7_convertOnce_341
        · skip
          refine lv_ldc (v := 1000001) hx hb hown (hts (Cond.constant RX7 114 (1000001)) (by decide +kernel)) dX7_convertOnce_231 ?_
          refine lv_goto (tgt := 253) hx hb dX7_convertOnce_233 (by decide) ?_
          refine mx_st S X 10 (N := 1536) (mW_10 _ _ _) (j := cel (o) (to) (fa)) (by unfold cel; omega) (by decide) (x := (1000001 : Int32)) dX7_convertOnce_253 (mW_s10 _ _ _ _ _) (fun H locs X => ?_)
          refine lv_goto (tgt := 287) hx hb dX7_convertOnce_254 (by decide) ?_
          refine lv_aload_n hx hb dX7_convertOnce_287 rfl (lv_at hl 4 rfl) ?_
          refine hx_getL S X (ci := 7) 0 (mW_0 _ _ _) rfl hin7 1 (by decide) (by decide +kernel) rfl dX7_convertOnce_288 ?_
          refine lv_iload hx hb dX7_convertOnce_291 (lv_at hl 3 rfl) ?_
          refine mx_ld S X 1 (N := 972) (mW_1 _ _ _) (j := stI (oC σ o) to i) (by omega) (by decide) (x := (3 : Int32)) (by rw [mS_nk _ _ _ _ (by decide)]; exact (stS_k i (by decide) _).trans ek) dX7_convertOnce_293 ?_
          refine lv_iconst (v := 2) hx hb dX7_convertOnce_294 (by decide) ?_
          refine lv_icmp_eq (tgt := 309) hx hb dX7_convertOnce_295 (by decide) (fun c9 => absurd c9 (by decide)) (fun _ => ?_)
          refine lv_aload_n hx hb dX7_convertOnce_298 rfl (lv_at hl 4 rfl) ?_
          refine hx_getL S X (ci := 7) 0 (mW_0 _ _ _) rfl hin7 1 (by decide) (by decide +kernel) rfl dX7_convertOnce_299 ?_
          refine lv_iload hx hb dX7_convertOnce_302 (lv_at hl 3 rfl) ?_
          refine mx_ld S X 1 (N := 972) (mW_1 _ _ _) (j := stI (oC σ o) to i) (by omega) (by decide) (x := (3 : Int32)) (by rw [mS_nk _ _ _ _ (by decide)]; exact (stS_k i (by decide) _).trans ek) dX7_convertOnce_304 ?_
          refine lv_iconst (v := 4) hx hb dX7_convertOnce_305 (by decide) ?_
          refine lv_icmp_ne (tgt := 314) hx hb dX7_convertOnce_306 (by decide) (fun _ => ?_) (fun c9 => absurd c9 (by decide))
          refine lv_iload hx hb dX7_convertOnce_314 (lv_at hl 2 rfl) ?_
          refine lv_istore (lv' := [(8, .int (nI (fa))), (7, .int (σ 1 (stI (oC σ o) to i + 2))), (6, .int (nI (fa))), (5, .int (nI (stI (oC σ o) to i))), (0, .ref (ad 0)), (1, .int (nI (o))), (2, .int (nI (to))), (3, .int (nI (oC σ o))), (4, .int (nI (i)))]) hx hb dX7_convertOnce_316 hl (by decide) rfl (fun ls hl => ?_)
          refine lv_aload_n hx hb dX7_convertOnce_318 rfl (lv_at hl 4 rfl) ?_
          refine hx_getL S X (ci := 7) 0 (mW_0 _ _ _) rfl hin7 11 (by decide) (by decide +kernel) rfl dX7_convertOnce_319 ?_
          refine lv_iload_n hx hb dX7_convertOnce_322 rfl (lv_at hl 5 rfl) ?_
          refine lv_iload_n hx hb dX7_convertOnce_323 rfl (lv_at hl 6 rfl) ?_
          refine lv_iload hx hb dX7_convertOnce_324 (lv_at hl 0 rfl) ?_
          refine hx_Si (rest := [.ref (ad 10)]) S X (c_X7_cell l G _ (o) (to) (fa)) gX7_convertOnce_X7_cell rfl (n := 3) (by decide +kernel) rfl ⟨(Nat.le_of_ble_eq_true rfl), (Nat.le_of_ble_eq_true rfl)⟩ hl.1 rfl (Nat.le_of_ble_eq_true rfl) dX7_convertOnce_326 ⟨(Nat.le_of_ble_eq_true rfl), (Nat.le_of_ble_eq_true rfl)⟩ (fun r wd1 H locs hp X => ?_)
          obtain ⟨rfl, rfl⟩ := hp
          refine mx_ld S X 10 (N := 1536) (mW_10 _ _ _) (j := cel (o) (to) (fa)) (by unfold cel; omega) (by decide) (x := (1000001 : Int32)) (by rw [mS_eq]) dX7_convertOnce_329 ?_
          refine lv_ldc (v := -1000000) hx hb hown (hts (Cond.constant RX7 76 (-1000000)) (by decide +kernel)) dX7_convertOnce_330 ?_
          refine lv_ldc (v := 1000000) hx hb hown (hts (Cond.constant RX7 77 (1000000)) (by decide +kernel)) dX7_convertOnce_332 ?_
          refine hx_Si (rest := []) S X (c_X7_in l G _ ((1000001 : Int32)) ((-1000000 : Int32)) ((1000000 : Int32))) gX7_convertOnce_X7_in rfl (n := 3) (by decide +kernel) rfl ⟨(Nat.le_of_ble_eq_true rfl), (Nat.le_of_ble_eq_true rfl)⟩ hl.1 rfl (Nat.le_of_ble_eq_true rfl) dX7_convertOnce_334 ⟨(Nat.le_of_ble_eq_true rfl), (Nat.le_of_ble_eq_true rfl)⟩ (fun r wd1 H locs hp X => ?_)
          obtain ⟨hr334, rfl⟩ := hp
          by_cases h334 : isVal ((1000001 : Int32))
          · skip
            refine hx_ei (hr334.1 h334) ?_
            refine lv_if_ne (tgt := 342) hx hb dX7_convertOnce_337 (by decide) (fun _ => ?_) (fun c9 => absurd c9 (by decide))
            refine lv_iinc (v := nI (i + 1)) (lv' := [(4, .int (nI (i + 1))), (8, .int (nI (fa))), (7, .int (σ 1 (stI (oC σ o) to i + 2))), (6, .int (nI (fa))), (5, .int (nI (stI (oC σ o) to i))), (0, .ref (ad 0)), (1, .int (nI (o))), (2, .int (nI (to))), (3, .int (nI (oC σ o)))]) hx hb dX7_convertOnce_342 hl (k := 8) rfl (nI_add (i) 1) (by decide) rfl (fun ls hl => ?_)
            refine lv_goto (tgt := 52) hx hb dX7_convertOnce_345 (by decide) ?_
            have hS := stS_yes (s' := (mS (stS σ o to (oC σ o) i).2 10 (cel (o) (to) (fa)) ((1000001 : Int32)))) hv (by rw [ek, ea, stepS_3, cfa, ← ey1, sclR, if_pos (Int32.not_le.mp c228)]) (by rw [ek, ea, show chgF 3 (nI fa) _ = fa from by simp [chgF, cfa]]; rw [mS_eq]; exact h334)
            exact ih (i + 1) (by omega) (by rw [hS]) _ _ _ (X.to (congrArg (mW G ad) (show _ = (stS σ o to (oC σ o) (i + 1)).2 from by rw [hS]))) (lv_sub hl [5, 6, 7, 8, 0] rfl)
          · skip
            refine hx_ei (hr334.2 h334) ?_
            refine lv_if_ne (tgt := 342) hx hb dX7_convertOnce_337 (by decide) (fun c9 => absurd (by decide) c9) (fun _ => ?_)
            refine lv_iconst (v := 0) hx hb dX7_convertOnce_340 (by decide) ?_
            have hS := stS_no (s' := (mS (stS σ o to (oC σ o) i).2 10 (cel (o) (to) (fa)) ((1000001 : Int32)))) hv (by rw [ek, ea, stepS_3, cfa, ← ey1, sclR, if_pos (Int32.not_le.mp c228)]) (by rw [ek, ea, show chgF 3 (nI fa) _ = fa from by simp [chgF, cfa]]; rw [mS_eq]; exact h334)
            have hM : M_once σ o to = (false, (mS (stS σ o to (oC σ o) i).2 10 (cel (o) (to) (fa)) ((1000001 : Int32)))) := by rw [M_once, show stp σ (oC σ o) to = (i + 1) + (stp σ (oC σ o) to - (i + 1)) by omega, stS_stop (by rw [hS]; simp), hS]
            exact hx_zret S X hr hlk (Nat.le_of_ble_eq_true rfl) (Nat.le_of_ble_eq_true rfl) (by decide) ⟨isB_f (by rw [hM]; simp) rfl, by rw [hM]⟩ dX7_convertOnce_341
      · skip
        have ek : σ 1 (stI (oC σ o) to i) = 4 := ek
        have eb : σ 1 (stI (oC σ o) to i + 2) = nI fb := eb
        have cfb : cN (nI fb) = fb := nI_clamp (by omega)
        refine lv_iload hx hb dX7_convertOnce_52 (lv_at hl 4 rfl) ?_
        refine lv_aload_n hx hb dX7_convertOnce_54 rfl (lv_at hl 0 rfl) ?_
        refine lv_iload_n hx hb dX7_convertOnce_55 rfl (lv_at hl 3 rfl) ?_
        refine lv_bipush (v := 10) hx hb dX7_convertOnce_56 (by decide) ?_
        refine lv_iload_n hx hb dX7_convertOnce_58 rfl (lv_at hl 2 rfl) ?_
        refine lv_iadd hx hb dX7_convertOnce_59 ?_
        refine hx_ei (show _ = nI (10 + to) from nI_add (10) (to)) ?_
        refine hx_Vi (rest := [.int (nI (i))]) S X (c_X7_of l G ad (stS σ o to (oC σ o) i).2 (oC σ o) (10 + to) (by omega)) gX7_convertOnce_X7_of rfl (n := 2) (by decide +kernel) rfl ⟨(Nat.le_of_ble_eq_true rfl), (Nat.le_of_ble_eq_true rfl)⟩ (hx_recvL (q0 := 0) (ci := 7) X rfl (mW_0 _ _ _)) hl.1 rfl (Nat.le_of_ble_eq_true rfl) dX7_convertOnce_60 ⟨(Nat.le_of_ble_eq_true rfl), (Nat.le_of_ble_eq_true rfl)⟩ (fun r wd1 H locs hp X => ?_)
        obtain ⟨rfl, rfl⟩ := hp
        refine hx_ei (show _ = nI (stp σ (oC σ o) to) from (stS_k i (by decide) _).trans hn0) ?_
        refine lv_icmp_ge (tgt := 348) hx hb dX7_convertOnce_63 (by decide) (fun c9 => absurd c9 (nI_ge (a := i) (b := stp σ (oC σ o) to) (by omega) (by omega))) (fun _ => ?_)
        refine lv_iload_n hx hb dX7_convertOnce_66 rfl (lv_at hl 3 rfl) ?_
        refine lv_bipush (v := 18) hx hb dX7_convertOnce_67 (by decide) ?_
        refine lv_bipush (v := 18) hx hb dX7_convertOnce_69 (by decide) ?_
        refine lv_iload_n hx hb dX7_convertOnce_71 rfl (lv_at hl 2 rfl) ?_
        refine lv_imul hx hb dX7_convertOnce_72 ?_
        refine hx_ei (show _ = nI ((18) * (to)) from pk_mul (18) (to)) ?_
        refine lv_iadd hx hb dX7_convertOnce_73 ?_
        refine hx_ei (show _ = nI (18 + (18) * (to)) from nI_add (18) ((18) * (to))) ?_
        refine lv_iconst (v := 3) hx hb dX7_convertOnce_74 (by decide) ?_
        refine lv_iload hx hb dX7_convertOnce_75 (lv_at hl 4 rfl) ?_
        refine lv_imul hx hb dX7_convertOnce_77 ?_
        refine hx_ei (show _ = nI ((3) * (i)) from pk_mul (3) (i)) ?_
        refine lv_iadd hx hb dX7_convertOnce_78 ?_
        refine hx_ei (show _ = nI (18 + (18) * (to) + (3) * (i)) from nI_add (18 + (18) * (to)) ((3) * (i))) ?_
        refine hx_Si (rest := []) S X (c_X7_at l G _ (oC σ o) (18 + (18) * (to) + (3) * (i))) gX7_convertOnce_X7_at rfl (n := 2) (by decide +kernel) rfl ⟨(Nat.le_of_ble_eq_true rfl), (Nat.le_of_ble_eq_true rfl)⟩ hl.1 rfl (Nat.le_of_ble_eq_true rfl) dX7_convertOnce_79 ⟨(Nat.le_of_ble_eq_true rfl), (Nat.le_of_ble_eq_true rfl)⟩ (fun r wd1 H locs hp X => ?_)
        obtain ⟨rfl, rfl⟩ := hp
        refine hx_ei (show _ = nI (stI (oC σ o) to i) from rfl) ?_
        refine lv_istore (lv' := [(5, .int (nI (stI (oC σ o) to i))), (0, .ref (ad 0)), (1, .int (nI (o))), (2, .int (nI (to))), (3, .int (nI (oC σ o))), (4, .int (nI (i)))]) hx hb dX7_convertOnce_82 hl (by decide) rfl (fun ls hl => ?_)
        refine lv_aload_n hx hb dX7_convertOnce_84 rfl (lv_at hl 1 rfl) ?_
        refine hx_getL S X (ci := 7) 0 (mW_0 _ _ _) rfl hin7 1 (by decide) (by decide +kernel) rfl dX7_convertOnce_85 ?_
        refine lv_iload hx hb dX7_convertOnce_88 (lv_at hl 0 rfl) ?_
        refine lv_iconst (v := 1) hx hb dX7_convertOnce_90 (by decide) ?_
        refine lv_iadd hx hb dX7_convertOnce_91 ?_
        refine hx_ei (show _ = nI (stI (oC σ o) to i + 1) from nI_add (stI (oC σ o) to i) (1)) ?_
        refine mx_ld S X 1 (N := 972) (mW_1 _ _ _) (j := stI (oC σ o) to i + 1) (by omega) (by decide) (x := nI (fa)) ((stS_k i (by decide) _).trans ea) dX7_convertOnce_92 ?_
        refine lv_istore (lv' := [(6, .int (nI (fa))), (5, .int (nI (stI (oC σ o) to i))), (0, .ref (ad 0)), (1, .int (nI (o))), (2, .int (nI (to))), (3, .int (nI (oC σ o))), (4, .int (nI (i)))]) hx hb dX7_convertOnce_93 hl (by decide) rfl (fun ls hl => ?_)
        refine lv_aload_n hx hb dX7_convertOnce_95 rfl (lv_at hl 2 rfl) ?_
        refine hx_getL S X (ci := 7) 0 (mW_0 _ _ _) rfl hin7 1 (by decide) (by decide +kernel) rfl dX7_convertOnce_96 ?_
        refine lv_iload hx hb dX7_convertOnce_99 (lv_at hl 1 rfl) ?_
        refine lv_iconst (v := 2) hx hb dX7_convertOnce_101 (by decide) ?_
        refine lv_iadd hx hb dX7_convertOnce_102 ?_
        refine hx_ei (show _ = nI (stI (oC σ o) to i + 2) from nI_add (stI (oC σ o) to i) (2)) ?_
        refine mx_ld S X 1 (N := 972) (mW_1 _ _ _) (j := stI (oC σ o) to i + 2) (by omega) (by decide) (x := nI (fb)) ((stS_k i (by decide) _).trans eb) dX7_convertOnce_103 ?_
        refine lv_istore (lv' := [(7, .int (nI (fb))), (6, .int (nI (fa))), (5, .int (nI (stI (oC σ o) to i))), (0, .ref (ad 0)), (1, .int (nI (o))), (2, .int (nI (to))), (3, .int (nI (oC σ o))), (4, .int (nI (i)))]) hx hb dX7_convertOnce_104 hl (by decide) rfl (fun ls hl => ?_)
        refine lv_aload_n hx hb dX7_convertOnce_106 rfl (lv_at hl 3 rfl) ?_
        refine hx_getL S X (ci := 7) 0 (mW_0 _ _ _) rfl hin7 1 (by decide) (by decide +kernel) rfl dX7_convertOnce_107 ?_
        refine lv_iload hx hb dX7_convertOnce_110 (lv_at hl 2 rfl) ?_
        refine mx_ld S X 1 (N := 972) (mW_1 _ _ _) (j := stI (oC σ o) to i) (by omega) (by decide) (x := (4 : Int32)) ((stS_k i (by decide) _).trans ek) dX7_convertOnce_112 ?_
        refine lv_tableIn (off := 144) (tgt := 257) hx hb dX7_convertOnce_113 (by decide) (by decide) (by decide) (by decide) ?_
        refine lv_aload_n hx hb dX7_convertOnce_257 rfl (lv_at hl 3 rfl) ?_
        refine hx_getL S X (ci := 7) 0 (mW_0 _ _ _) rfl hin7 11 (by decide) (by decide +kernel) rfl dX7_convertOnce_258 ?_
        refine lv_iload_n hx hb dX7_convertOnce_261 rfl (lv_at hl 4 rfl) ?_
        refine lv_iload_n hx hb dX7_convertOnce_262 rfl (lv_at hl 5 rfl) ?_
        refine lv_iload hx hb dX7_convertOnce_263 (lv_at hl 0 rfl) ?_
        refine hx_Si (rest := [.ref (ad 10)]) S X (c_X7_cell l G _ (o) (to) (fb)) gX7_convertOnce_X7_cell rfl (n := 3) (by decide +kernel) rfl ⟨(Nat.le_of_ble_eq_true rfl), (Nat.le_of_ble_eq_true rfl)⟩ hl.1 rfl (Nat.le_of_ble_eq_true rfl) dX7_convertOnce_265 ⟨(Nat.le_of_ble_eq_true rfl), (Nat.le_of_ble_eq_true rfl)⟩ (fun r wd1 H locs hp X => ?_)
        obtain ⟨rfl, rfl⟩ := hp
        refine lv_dup2_11 hx hb dX7_convertOnce_268 rfl rfl ?_
        refine mx_ld S X 10 (N := 1536) (mW_10 _ _ _) (j := cel (o) (to) (fb)) (by unfold cel; omega) (by decide) (x := (stS σ o to (oC σ o) i).2 10 (cel (o) (to) (fb))) (rfl) dX7_convertOnce_269 ?_
        refine lv_aload_n hx hb dX7_convertOnce_270 rfl (lv_at hl 3 rfl) ?_
        refine hx_getL S X (ci := 7) 0 (mW_0 _ _ _) rfl hin7 11 (by decide) (by decide +kernel) rfl dX7_convertOnce_271 ?_
        refine lv_iload_n hx hb dX7_convertOnce_274 rfl (lv_at hl 4 rfl) ?_
        refine lv_iload_n hx hb dX7_convertOnce_275 rfl (lv_at hl 5 rfl) ?_
        refine lv_iload hx hb dX7_convertOnce_276 (lv_at hl 1 rfl) ?_
        refine hx_Si (rest := [.ref (ad 10), .int ((stS σ o to (oC σ o) i).2 10 (cel (o) (to) (fb))), .int (nI (cel (o) (to) (fb))), .ref (ad 10)]) S X (c_X7_cell l G _ (o) (to) (fa)) gX7_convertOnce_X7_cell rfl (n := 3) (by decide +kernel) rfl ⟨(Nat.le_of_ble_eq_true rfl), (Nat.le_of_ble_eq_true rfl)⟩ hl.1 rfl (Nat.le_of_ble_eq_true rfl) dX7_convertOnce_278 ⟨(Nat.le_of_ble_eq_true rfl), (Nat.le_of_ble_eq_true rfl)⟩ (fun r wd1 H locs hp X => ?_)
        obtain ⟨rfl, rfl⟩ := hp
        refine mx_ld S X 10 (N := 1536) (mW_10 _ _ _) (j := cel (o) (to) (fa)) (by unfold cel; omega) (by decide) (x := (stS σ o to (oC σ o) i).2 10 (cel (o) (to) (fa))) (rfl) dX7_convertOnce_281 ?_
        refine lv_iadd hx hb dX7_convertOnce_282 ?_
        refine mx_st S X 10 (N := 1536) (mW_10 _ _ _) (j := cel (o) (to) (fb)) (by unfold cel; omega) (by decide) (x := ((stS σ o to (oC σ o) i).2 10 (cel (o) (to) (fb))) + ((stS σ o to (oC σ o) i).2 10 (cel (o) (to) (fa)))) dX7_convertOnce_283 (mW_s10 _ _ _ _ _) (fun H locs X => ?_)
        refine lv_goto (tgt := 287) hx hb dX7_convertOnce_284 (by decide) ?_
        refine lv_aload_n hx hb dX7_convertOnce_287 rfl (lv_at hl 3 rfl) ?_
        refine hx_getL S X (ci := 7) 0 (mW_0 _ _ _) rfl hin7 1 (by decide) (by decide +kernel) rfl dX7_convertOnce_288 ?_
        refine lv_iload hx hb dX7_convertOnce_291 (lv_at hl 2 rfl) ?_
        refine mx_ld S X 1 (N := 972) (mW_1 _ _ _) (j := stI (oC σ o) to i) (by omega) (by decide) (x := (4 : Int32)) (by rw [mS_nk _ _ _ _ (by decide)]; exact (stS_k i (by decide) _).trans ek) dX7_convertOnce_293 ?_
        refine lv_iconst (v := 2) hx hb dX7_convertOnce_294 (by decide) ?_
        refine lv_icmp_eq (tgt := 309) hx hb dX7_convertOnce_295 (by decide) (fun c9 => absurd c9 (by decide)) (fun _ => ?_)
        refine lv_aload_n hx hb dX7_convertOnce_298 rfl (lv_at hl 3 rfl) ?_
        refine hx_getL S X (ci := 7) 0 (mW_0 _ _ _) rfl hin7 1 (by decide) (by decide +kernel) rfl dX7_convertOnce_299 ?_
        refine lv_iload hx hb dX7_convertOnce_302 (lv_at hl 2 rfl) ?_
        refine mx_ld S X 1 (N := 972) (mW_1 _ _ _) (j := stI (oC σ o) to i) (by omega) (by decide) (x := (4 : Int32)) (by rw [mS_nk _ _ _ _ (by decide)]; exact (stS_k i (by decide) _).trans ek) dX7_convertOnce_304 ?_
        refine lv_iconst (v := 4) hx hb dX7_convertOnce_305 (by decide) ?_
        refine lv_icmp_ne (tgt := 314) hx hb dX7_convertOnce_306 (by decide) (fun c9 => absurd (by decide) c9) (fun _ => ?_)
        refine lv_iload hx hb dX7_convertOnce_309 (lv_at hl 0 rfl) ?_
        refine lv_goto (tgt := 316) hx hb dX7_convertOnce_311 (by decide) ?_
        refine lv_istore (lv' := [(8, .int (nI (fb))), (7, .int (nI (fb))), (6, .int (nI (fa))), (5, .int (nI (stI (oC σ o) to i))), (0, .ref (ad 0)), (1, .int (nI (o))), (2, .int (nI (to))), (3, .int (nI (oC σ o))), (4, .int (nI (i)))]) hx hb dX7_convertOnce_316 hl (by decide) rfl (fun ls hl => ?_)
        refine lv_aload_n hx hb dX7_convertOnce_318 rfl (lv_at hl 4 rfl) ?_
        refine hx_getL S X (ci := 7) 0 (mW_0 _ _ _) rfl hin7 11 (by decide) (by decide +kernel) rfl dX7_convertOnce_319 ?_
        refine lv_iload_n hx hb dX7_convertOnce_322 rfl (lv_at hl 5 rfl) ?_
        refine lv_iload_n hx hb dX7_convertOnce_323 rfl (lv_at hl 6 rfl) ?_
        refine lv_iload hx hb dX7_convertOnce_324 (lv_at hl 0 rfl) ?_
        refine hx_Si (rest := [.ref (ad 10)]) S X (c_X7_cell l G _ (o) (to) (fb)) gX7_convertOnce_X7_cell rfl (n := 3) (by decide +kernel) rfl ⟨(Nat.le_of_ble_eq_true rfl), (Nat.le_of_ble_eq_true rfl)⟩ hl.1 rfl (Nat.le_of_ble_eq_true rfl) dX7_convertOnce_326 ⟨(Nat.le_of_ble_eq_true rfl), (Nat.le_of_ble_eq_true rfl)⟩ (fun r wd1 H locs hp X => ?_)
        obtain ⟨rfl, rfl⟩ := hp
        refine mx_ld S X 10 (N := 1536) (mW_10 _ _ _) (j := cel (o) (to) (fb)) (by unfold cel; omega) (by decide) (x := ((stS σ o to (oC σ o) i).2 10 (cel (o) (to) (fb))) + ((stS σ o to (oC σ o) i).2 10 (cel (o) (to) (fa)))) (by rw [mS_eq]) dX7_convertOnce_329 ?_
        refine lv_ldc (v := -1000000) hx hb hown (hts (Cond.constant RX7 76 (-1000000)) (by decide +kernel)) dX7_convertOnce_330 ?_
        refine lv_ldc (v := 1000000) hx hb hown (hts (Cond.constant RX7 77 (1000000)) (by decide +kernel)) dX7_convertOnce_332 ?_
        refine hx_Si (rest := []) S X (c_X7_in l G _ (((stS σ o to (oC σ o) i).2 10 (cel (o) (to) (fb))) + ((stS σ o to (oC σ o) i).2 10 (cel (o) (to) (fa)))) ((-1000000 : Int32)) ((1000000 : Int32))) gX7_convertOnce_X7_in rfl (n := 3) (by decide +kernel) rfl ⟨(Nat.le_of_ble_eq_true rfl), (Nat.le_of_ble_eq_true rfl)⟩ hl.1 rfl (Nat.le_of_ble_eq_true rfl) dX7_convertOnce_334 ⟨(Nat.le_of_ble_eq_true rfl), (Nat.le_of_ble_eq_true rfl)⟩ (fun r wd1 H locs hp X => ?_)
        obtain ⟨hr334, rfl⟩ := hp
        by_cases h334 : isVal (((stS σ o to (oC σ o) i).2 10 (cel (o) (to) (fb))) + ((stS σ o to (oC σ o) i).2 10 (cel (o) (to) (fa))))
        · skip
          refine hx_ei (hr334.1 h334) ?_
          refine lv_if_ne (tgt := 342) hx hb dX7_convertOnce_337 (by decide) (fun _ => ?_) (fun c9 => absurd c9 (by decide))
          refine lv_iinc (v := nI (i + 1)) (lv' := [(4, .int (nI (i + 1))), (8, .int (nI (fb))), (7, .int (nI (fb))), (6, .int (nI (fa))), (5, .int (nI (stI (oC σ o) to i))), (0, .ref (ad 0)), (1, .int (nI (o))), (2, .int (nI (to))), (3, .int (nI (oC σ o)))]) hx hb dX7_convertOnce_342 hl (k := 8) rfl (nI_add (i) 1) (by decide) rfl (fun ls hl => ?_)
          refine lv_goto (tgt := 52) hx hb dX7_convertOnce_345 (by decide) ?_
          have hS := stS_yes (s' := (mS (stS σ o to (oC σ o) i).2 10 (cel (o) (to) (fb)) (((stS σ o to (oC σ o) i).2 10 (cel (o) (to) (fb))) + ((stS σ o to (oC σ o) i).2 10 (cel (o) (to) (fa)))))) hv (by rw [ek, ea, eb]; simp [stepS, cfa, cfb]) (by rw [ek, ea, eb, show chgF 4 (nI fa) (nI fb) = fb from by simp [chgF, cfa, cfb]]; rw [mS_eq]; exact h334)
          exact ih (i + 1) (by omega) (by rw [hS]) _ _ _ (X.to (congrArg (mW G ad) (show _ = (stS σ o to (oC σ o) (i + 1)).2 from by rw [hS]))) (lv_sub hl [5, 6, 7, 8, 0] rfl)
        · skip
          refine hx_ei (hr334.2 h334) ?_
          refine lv_if_ne (tgt := 342) hx hb dX7_convertOnce_337 (by decide) (fun c9 => absurd (by decide) c9) (fun _ => ?_)
          refine lv_iconst (v := 0) hx hb dX7_convertOnce_340 (by decide) ?_
          have hS := stS_no (s' := (mS (stS σ o to (oC σ o) i).2 10 (cel (o) (to) (fb)) (((stS σ o to (oC σ o) i).2 10 (cel (o) (to) (fb))) + ((stS σ o to (oC σ o) i).2 10 (cel (o) (to) (fa)))))) hv (by rw [ek, ea, eb]; simp [stepS, cfa, cfb]) (by rw [ek, ea, eb, show chgF 4 (nI fa) (nI fb) = fb from by simp [chgF, cfa, cfb]]; rw [mS_eq]; exact h334)
          have hM : M_once σ o to = (false, (mS (stS σ o to (oC σ o) i).2 10 (cel (o) (to) (fb)) (((stS σ o to (oC σ o) i).2 10 (cel (o) (to) (fb))) + ((stS σ o to (oC σ o) i).2 10 (cel (o) (to) (fa)))))) := by rw [M_once, show stp σ (oC σ o) to = (i + 1) + (stp σ (oC σ o) to - (i + 1)) by omega, stS_stop (by rw [hS]; simp), hS]
          exact hx_zret S X hr hlk (Nat.le_of_ble_eq_true rfl) (Nat.le_of_ble_eq_true rfl) (by decide) ⟨isB_f (by rw [hM]; simp) rfl, by rw [hM]⟩ dX7_convertOnce_341
  have loop1 : ∀ (n i : Nat) , i + n = 8 → True → ∀ (H : Heap) (locs : List Loc) (ls : Array Slot), hH G (va_A (mW G ad σ) s.heap.size) s.heap s (mW G ad (cpL σ o to i)) H locs → lv_has ls 10 [(0, .ref (ad 0)), (1, .int (nI (o))), (2, .int (nI (to))), (3, .int (nI (oC σ o))), (4, .int (nI (i)))] → W p l e ({ frames := 2, cells := 0, slots := 0, locals := 43 } : Room) s m args below meth c H locs 0 0 (MQ below (va_Qi (fun r w => isB r ((M_once σ o to).1 = true) ∧ w = mW G ad (M_once σ o to).2) (hB G (va_A (mW G ad σ) s.heap.size)) (va_A (mW G ad σ) s.heap.size)) args s 0 0 (va_A (mW G ad σ) s.heap.size)) (F0 m 10 ls []) := by
    intro n
    induction n with
    | zero =>
      intro i  hi hv H locs ls X hl
      have hin : i = 8 := by omega
      refine lv_iload hx hb dX7_convertOnce_10 (lv_at hl 4 rfl) ?_
      refine lv_bipush (v := 8) hx hb dX7_convertOnce_12 (by decide) ?_
      refine lv_icmp_ge (tgt := 49) hx hb dX7_convertOnce_14 (by decide) (fun _ => ?_) (fun c9 => absurd (nI_le (a := 8) (b := i) (by omega) (by omega)) c9)
      refine lv_iconst (v := 0) hx hb dX7_convertOnce_49 (by decide) ?_
      refine lv_istore (lv' := [(4, .int ((0 : Int32))), (0, .ref (ad 0)), (1, .int (nI (o))), (2, .int (nI (to))), (3, .int (nI (oC σ o)))]) hx hb dX7_convertOnce_50 hl (by decide) rfl (fun ls hl => ?_)
      exact loop2 (stp σ (oC σ o) to) 0 (by omega) rfl _ _ _ (X.to (congrArg (mW G ad) (show _ = (stS σ o to (oC σ o) 0).2 from by rw [hin]; rfl))) (lv_sub hl [1, 2, 3, 4, 0] rfl)
    | succ n ih =>
      intro i  hi hv H locs ls X hl
      have hin : i < 8 := by omega
      refine lv_iload hx hb dX7_convertOnce_10 (lv_at hl 4 rfl) ?_
      refine lv_bipush (v := 8) hx hb dX7_convertOnce_12 (by decide) ?_
      refine lv_icmp_ge (tgt := 49) hx hb dX7_convertOnce_14 (by decide) (fun c9 => absurd c9 (nI_ge (a := i) (b := 8) (by omega) (by omega))) (fun _ => ?_)
      refine lv_aload_n hx hb dX7_convertOnce_17 rfl (lv_at hl 0 rfl) ?_
      refine hx_getL S X (ci := 7) 0 (mW_0 _ _ _) rfl hin7 11 (by decide) (by decide +kernel) rfl dX7_convertOnce_18 ?_
      refine lv_iload_n hx hb dX7_convertOnce_21 rfl (lv_at hl 1 rfl) ?_
      refine lv_iload_n hx hb dX7_convertOnce_22 rfl (lv_at hl 2 rfl) ?_
      refine lv_iload hx hb dX7_convertOnce_23 (lv_at hl 4 rfl) ?_
      refine hx_Si (rest := [.ref (ad 10)]) S X (c_X7_cell l G _ (o) (to) (i)) gX7_convertOnce_X7_cell rfl (n := 3) (by decide +kernel) rfl ⟨(Nat.le_of_ble_eq_true rfl), (Nat.le_of_ble_eq_true rfl)⟩ hl.1 rfl (Nat.le_of_ble_eq_true rfl) dX7_convertOnce_25 ⟨(Nat.le_of_ble_eq_true rfl), (Nat.le_of_ble_eq_true rfl)⟩ (fun r wd1 H locs hp X => ?_)
      obtain ⟨rfl, rfl⟩ := hp
      refine lv_aload_n hx hb dX7_convertOnce_28 rfl (lv_at hl 0 rfl) ?_
      refine hx_getL S X (ci := 7) 0 (mW_0 _ _ _) rfl hin7 11 (by decide) (by decide +kernel) rfl dX7_convertOnce_29 ?_
      refine lv_iload_n hx hb dX7_convertOnce_32 rfl (lv_at hl 1 rfl) ?_
      refine lv_iload_n hx hb dX7_convertOnce_33 rfl (lv_at hl 2 rfl) ?_
      refine lv_iconst (v := 1) hx hb dX7_convertOnce_34 (by decide) ?_
      refine lv_isub hx hb dX7_convertOnce_35 ?_
      refine hx_ei (show _ = nI ((to) - (1)) from pk_sub (a := to) (b := 1) (by omega)) ?_
      refine lv_iload hx hb dX7_convertOnce_36 (lv_at hl 4 rfl) ?_
      refine hx_Si (rest := [.ref (ad 10), .int (nI (cel (o) (to) (i))), .ref (ad 10)]) S X (c_X7_cell l G _ (o) ((to) - (1)) (i)) gX7_convertOnce_X7_cell rfl (n := 3) (by decide +kernel) rfl ⟨(Nat.le_of_ble_eq_true rfl), (Nat.le_of_ble_eq_true rfl)⟩ hl.1 rfl (Nat.le_of_ble_eq_true rfl) dX7_convertOnce_38 ⟨(Nat.le_of_ble_eq_true rfl), (Nat.le_of_ble_eq_true rfl)⟩ (fun r wd1 H locs hp X => ?_)
      obtain ⟨rfl, rfl⟩ := hp
      refine mx_ld S X 10 (N := 1536) (mW_10 _ _ _) (j := cel (o) ((to) - (1)) (i)) (by unfold cel; omega) (by decide) (x := (cpL σ o to i) 10 (cel (o) ((to) - (1)) (i))) (rfl) dX7_convertOnce_41 ?_
      refine mx_st S X 10 (N := 1536) (mW_10 _ _ _) (j := cel (o) (to) (i)) (by unfold cel; omega) (by decide) (x := (cpL σ o to i) 10 (cel (o) ((to) - (1)) (i))) dX7_convertOnce_42 (mW_s10 _ _ _ _ _) (fun H locs X => ?_)
      refine lv_iinc (v := nI (i + 1)) (lv' := [(4, .int (nI (i + 1))), (0, .ref (ad 0)), (1, .int (nI (o))), (2, .int (nI (to))), (3, .int (nI (oC σ o)))]) hx hb dX7_convertOnce_43 hl (k := 4) rfl (nI_add (i) 1) (by decide) rfl (fun ls hl => ?_)
      refine lv_goto (tgt := 10) hx hb dX7_convertOnce_46 (by decide) ?_
      exact ih (i + 1) (by omega) trivial _ _ _ X (lv_sub hl [1, 2, 3, 4, 0] rfl)
  refine lv_aload_n hx hb dX7_convertOnce_0 rfl (lv_at hl 0 rfl) ?_
  refine hx_getL S X (ci := 7) 0 (mW_0 _ _ _) rfl hin7 8 (by decide) (by decide +kernel) rfl dX7_convertOnce_1 ?_
  refine lv_iload_n hx hb dX7_convertOnce_4 rfl (lv_at hl 1 rfl) ?_
  refine mx_ld S X 7 (N := 24) (mW_7 _ _ _) (j := o) (by omega) (by decide) (x := nI (oC σ o)) (h7) dX7_convertOnce_5 ?_
  refine lv_istore_n (lv' := [(3, .int (nI (oC σ o))), (0, .ref (ad 0)), (1, .int (nI (o))), (2, .int (nI (to)))]) hx hb dX7_convertOnce_6 rfl hl (by decide) rfl (fun ls hl => ?_)
  refine lv_iconst (v := 0) hx hb dX7_convertOnce_7 (by decide) ?_
  refine lv_istore (lv' := [(4, .int ((0 : Int32))), (3, .int (nI (oC σ o))), (0, .ref (ad 0)), (1, .int (nI (o))), (2, .int (nI (to)))]) hx hb dX7_convertOnce_8 hl (by decide) rfl (fun ls hl => ?_)
  exact loop1 8 0 (by omega) trivial _ _ _ X (lv_sub hl [2, 3, 4, 1, 0] rfl)
