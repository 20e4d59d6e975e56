theorem rb_skip {σ : Sg} {type ver : Int32} {n : Nat} (h : ¬ (¬ rbL σ type ver n 6 n = 0 ∧ rbL σ type ver n 7 n = type ∧ rbL σ type ver n 8 n = ver)) : rbL σ type ver (n + 1) = rbL σ type ver n := by rw [rbL, wif_f h]
theorem rb_del {σ : Sg} {type ver : Int32} {n : Nat} (h : ¬ rbL σ type ver n 6 n = 0 ∧ rbL σ type ver n 7 n = type ∧ rbL σ type ver n 8 n = ver) (h9 : rbL σ type ver n 9 n = ver) : rbL σ type ver (n + 1) = M_delete (rbL σ type ver n) n := by rw [rbL, wif_t h, wif_t h9]
theorem rb_rev {σ : Sg} {type ver : Int32} {n : Nat} (h : ¬ rbL σ type ver n 6 n = 0 ∧ rbL σ type ver n 7 n = type ∧ rbL σ type ver n 8 n = ver) (h9 : ¬ rbL σ type ver n 9 n = ver) : rbL σ type ver (n + 1) = mS (rbL σ type ver n) 8 n (rbL σ type ver n 8 n - 1) := by rw [rbL, wif_t h, wif_f h9]
theorem rx_rem {G : hG} {L : List Nat} {f : Nat → va_E} {ad : xAd} {σ : Sg} (hI : Inv σ) (hR : RX G L f ad σ) {t : Nat} (ht : t < nC σ) :
    RX G L (va_up f (ad 4 t 0 0) (.inr (1, [.int (nI t), .ref (ad 5 t 0 0), .ref (ad 6 t 0 0), .int (nI (cnt σ t - 1 - 1)), .int 0]))) ad (mS (mS σ 1 (162 * t + 1) 0) 1 (162 * t + 0) (nI (cnt σ t - 1))) := by
  have hk := (hI.2.2.1 t ht).1
  refine rx_hist hI hR ht (fun k h => by rw [mS_k h, mS_k h]) (fun j h h2 => by rw [m11, if_neg h, m11, if_neg h2]) ?_ ?_
  · unfold cnt
    rw [m11, if_pos rfl, show cN (nI (cN (σ 1 (162 * t + 0)) - 1)) = cnt σ t - 1 from nI_clamp (show cnt σ t - 1 < 2 ^ 31 by omega)]
    rfl
  · rw [m11, if_neg (by omega), m11, if_pos rfl]
theorem nI_pred2 {n : Nat} (h : 1 ≤ n) : nI n - 1 = nI (n - 1) := pk_sub (a := n) (b := 1) h
set_option maxRecDepth 100000 in
set_option maxHeartbeats 4000000 in
theorem c_X6_rollBackObjects (l : Launch) (G : hG) (L : List Nat) (f : Nat → va_E) (ad : xAd) (σ : Sg) (t : Nat) (hI : Inv σ) (hR : RX G L f ad σ) (hFr : Fr σ) (ht : t < nC σ) (hnr : noRun σ t (cnt σ t - 1)) : hMv l G yX6_rollBackObjects wsX6_rollBackObjects ({ frames := 1, cells := 0, slots := 0, locals := 20 } : Room) (va_pl L f) [.ref (ad 0 0 0 0), .int (nI (t)), .int (nI (cnt σ t - 1))] (fun w => ∃ f2, w = va_pl L f2 ∧ RX G L f2 ad (rbL σ (nI t) (nI (cnt σ t - 1)) (nO σ))) := by
  refine hMv.of (cc := cX6_rollBackObjects) (maxL := 5) none RX6 rfl (by decide +kernel) rfl (Nat.le_of_ble_eq_true rfl) ?_
  intro p e s m args below meth c S hr hlk hin X ls hl
  have hx := S.1
  have hb := S.2.1
  have hown := S.2.2.2.1
  have hts := S.2.2.2.2
  have hl : lv_has ls 5 [(0, .ref (ad 0 0 0 0)), (1, .int (nI (t))), (2, .int (nI (cnt σ t - 1)))] := hl
  have hin1 : ∀ w ∈ wsX10, w ∈ wsX6_rollBackObjects := by decide +kernel
  have hin5 : ∀ w ∈ wsX50, w ∈ wsX6_rollBackObjects := by decide +kernel
  have hin6 : ∀ w ∈ wsX60, w ∈ wsX6_rollBackObjects := by decide +kernel
  have hC6 : nC σ ≤ 6 := hI.1.2
  have hO24 : nO σ ≤ 24 := hI.2.1.2
  obtain ⟨m0, f0⟩ := rx0 hR
  obtain ⟨g1, m1, f1, e1⟩ := rx1 hR
  obtain ⟨g2, m2, f2, e2⟩ := rx2 hR
  obtain ⟨g3, m3, f3, e3⟩ := rx3 hR
  have hkt := (hI.2.2.1 t ht).1
  refine lv_iconst (v := 0) hx hb dX6_rollBackObjects_0 (by decide) ?_
  refine lv_istore_n (lv' := [(3, .int ((0 : Int32))), (0, .ref (ad 0 0 0 0)), (1, .int (nI (t))), (2, .int (nI (cnt σ t - 1)))]) hx hb dX6_rollBackObjects_1 rfl hl (by decide) rfl (fun ls hl => ?_)
  have loop : ∀ (n9 i : Nat) (F : Nat → va_E), i + n9 = nO σ → RX G L F ad (rbL σ (nI t) (nI (cnt σ t - 1)) i) → ∀ (H : Heap) (locs : List Loc) (ls : Array Slot), hH G (va_A (va_pl L f) s.heap.size) s.heap s (va_pl L F) H locs → lv_has ls 5 [(0, .ref (ad 0 0 0 0)), (1, .int (nI (t))), (2, .int (nI (cnt σ t - 1))), (3, .int (nI (i)))] → W p l e ({ frames := 1, cells := 0, slots := 0, locals := 20 } : Room) s m args below meth c H locs 0 0 (MQ below (va_Qv (fun w => ∃ f2, w = va_pl L f2 ∧ RX G L f2 ad (rbL σ (nI t) (nI (cnt σ t - 1)) (nO σ))) (hB G (va_A (va_pl L f) s.heap.size)) (va_A (va_pl L f) s.heap.size)) args s 0 0 (va_A (va_pl L f) s.heap.size)) (F0 m 2 ls []) := by
    intro n9
    induction n9 with
    | zero =>
      intro i F hi9 hv H locs ls X hl
      have hin : i = nO σ := by omega
      obtain ⟨hIs, hks, -, -⟩ := rb_all ⟨hI, hFr⟩ ht hnr i (by omega)
      have eO : nO (rbL σ (nI t) (nI (cnt σ t - 1)) i) = nO σ := by unfold nO; rw [hks 0 (by decide) (by decide) (by decide)]
      have eC : nC (rbL σ (nI t) (nI (cnt σ t - 1)) i) = nC σ := by unfold nC; rw [hks 0 (by decide) (by decide) (by decide)]
      obtain ⟨n0, q0⟩ := rx0 hv
      rw [eO, eC] at q0
      refine lv_iload_n hx hb dX6_rollBackObjects_2 rfl (lv_at hl 3 rfl) ?_
      refine lv_aload_n hx hb dX6_rollBackObjects_3 rfl (lv_at hl 0 rfl) ?_
      refine xp_get S X (ci := 6) n0 q0 rfl hin6 4 (by decide) (by decide +kernel) rfl dX6_rollBackObjects_4 ?_
      refine lv_icmp_ge (tgt := 77) hx hb dX6_rollBackObjects_7 (by decide) (fun _ => ?_) (fun c9 => absurd (nI_le (a := nO σ) (b := i) (by omega) (by omega)) c9)
      exact hx_vret S X hr hlk (Nat.le_of_ble_eq_true rfl) (Nat.le_of_ble_eq_true rfl) ⟨F, rfl, by rw [← hin]; exact hv⟩ dX6_rollBackObjects_77
    | succ n9 ih =>
      intro i F hi9 hv H locs ls X hl
      have hin : i < nO σ := by omega
      have hb := rb_all ⟨hI, hFr⟩ ht hnr i (by omega)
      obtain ⟨sg, hsg⟩ : ∃ sg, sg = rbL σ (nI t) (nI (cnt σ t - 1)) i := ⟨_, rfl⟩
      have hsk := @rb_skip σ (nI t) (nI (cnt σ t - 1)) i
      have hsd := @rb_del σ (nI t) (nI (cnt σ t - 1)) i
      have hsr := @rb_rev σ (nI t) (nI (cnt σ t - 1)) i
      rw [← hsg] at hb hv hsk hsd hsr
      obtain ⟨hIs, hks, -, -⟩ := hb
      have eO : nO sg = nO σ := by unfold nO; rw [hks 0 (by decide) (by decide) (by decide)]
      have eC : nC sg = nC σ := by unfold nC; rw [hks 0 (by decide) (by decide) (by decide)]
      have eK : ∀ u, cnt sg u = cnt σ u := fun u => by unfold cnt; rw [hks 1 (by decide) (by decide) (by decide)]
      have his : i < nO sg := by omega
      have hts : t < nC sg := by omega
      obtain ⟨n0, q0⟩ := rx0 hv
      rw [eO, eC] at q0
      obtain ⟨g3, n3, q3, e3⟩ := rx3 hv
      have hat := rb_at hIs.1 hts his
      rw [eK] at hat
      by_cases hx1 : sg 6 i = 1
      · skip
        obtain ⟨⟨o1, o2⟩, ⟨o3, o4⟩, ⟨o5, o6⟩, o7⟩ := (hIs.1.2.2.2.2.2 i his).2 hx1
        have ok8 := (hIs.1.2.2.1 _ o2).1.2.2
        obtain ⟨n13, q13⟩ := rx13 hv his hx1
        obtain ⟨n4, q4⟩ := rx4 hv o2
        refine lv_iload_n hx hb dX6_rollBackObjects_2 rfl (lv_at hl 3 rfl) ?_
        refine lv_aload_n hx hb dX6_rollBackObjects_3 rfl (lv_at hl 0 rfl) ?_
        refine xp_get S X (ci := 6) n0 q0 rfl hin6 4 (by decide) (by decide +kernel) rfl dX6_rollBackObjects_4 ?_
        refine lv_icmp_ge (tgt := 77) hx hb dX6_rollBackObjects_7 (by decide) (fun c9 => absurd c9 (nI_ge (a := i) (b := nO σ) (by omega) (by omega))) (fun _ => ?_)
        refine lv_aload_n hx hb dX6_rollBackObjects_10 rfl (lv_at hl 0 rfl) ?_
        refine xp_get S X (ci := 6) n0 q0 rfl hin6 3 (by decide) (by decide +kernel) rfl dX6_rollBackObjects_11 ?_
        refine lv_iload_n hx hb dX6_rollBackObjects_14 rfl (lv_at hl 3 rfl) ?_
        refine xp_ald S X 7 rfl rfl n3 q3 (j := i) (by omega) (by decide) (x := .ref (ad 13 i 0 0)) (by rw [(e3 i his).1 hx1]; rfl) dX6_rollBackObjects_15 ?_
        refine lv_astore (lv' := [(4, .ref (ad 13 i 0 0)), (0, .ref (ad 0 0 0 0)), (1, .int (nI (t))), (2, .int (nI (cnt σ t - 1))), (3, .int (nI (i)))]) hx hb dX6_rollBackObjects_16 hl (by decide) rfl (fun ls hl => ?_)
        refine lv_aload hx hb dX6_rollBackObjects_18 (lv_at hl 0 rfl) ?_
        refine lv_ifnull hx hb dX6_rollBackObjects_20 ?_
        refine lv_aload hx hb dX6_rollBackObjects_23 (lv_at hl 0 rfl) ?_
        refine xp_getN (host := RX6) S X (ci := 5) n13 q13 rfl hin5 0 (by decide) (by decide +kernel) rfl dX6_rollBackObjects_25 ?_
        refine xp_getN (host := RX6) S X (ci := 1) n4 q4 rfl hin1 0 (by decide) (by decide +kernel) rfl dX6_rollBackObjects_28 ?_
        refine lv_iload_n hx hb dX6_rollBackObjects_31 rfl (lv_at hl 2 rfl) ?_
        refine lv_icmp_ne (tgt := 71) hx hb dX6_rollBackObjects_32 (by decide) (fun c32 => ?_) (fun c32 => ?_)
        · skip
          have c32 := (not_congr (nI_eq (a := oC sg i) (b := t) (by omega) (by omega))).mp c32
          refine lv_iinc (v := nI (i + 1)) (lv' := [(3, .int (nI (i + 1))), (4, .ref (ad 13 i 0 0)), (0, .ref (ad 0 0 0 0)), (1, .int (nI (t))), (2, .int (nI (cnt σ t - 1)))]) hx hb dX6_rollBackObjects_71 hl (k := 4) rfl (nI_add (i) 1) (by decide) rfl (fun ls hl => ?_)
          refine lv_goto (tgt := 2) hx hb dX6_rollBackObjects_74 (by decide) ?_
          have hnx := hsk (fun q => c32 (hat.mp q).2.1)
          exact ih (i + 1) F (by omega) (by rw [hnx]; exact hv) _ _ _ X (lv_sub hl [2, 3, 4, 0] rfl)
        · skip
          have c32 := (nI_eq (a := oC sg i) (b := t) (by omega) (by omega)).mp c32
          refine lv_aload hx hb dX6_rollBackObjects_35 (lv_at hl 0 rfl) ?_
          refine xp_getN (host := RX6) S X (ci := 5) n13 q13 rfl hin5 2 (by decide) (by decide +kernel) rfl dX6_rollBackObjects_37 ?_
          refine lv_iload_n hx hb dX6_rollBackObjects_40 rfl (lv_at hl 3 rfl) ?_
          refine lv_icmp_eq (tgt := 47) hx hb dX6_rollBackObjects_41 (by decide) (fun c41 => ?_) (fun c41 => ?_)
          · skip
            have c41 := (nI_eq (a := oV sg i) (b := cnt σ t - 1) (by omega) (by omega)).mp c41
            refine lv_aload hx hb dX6_rollBackObjects_47 (lv_at hl 0 rfl) ?_
            refine xp_getN (host := RX6) S X (ci := 5) n13 q13 rfl hin5 1 (by decide) (by decide +kernel) rfl dX6_rollBackObjects_49 ?_
            refine lv_iload_n hx hb dX6_rollBackObjects_52 rfl (lv_at hl 3 rfl) ?_
            refine lv_icmp_ne (tgt := 66) hx hb dX6_rollBackObjects_53 (by decide) (fun c53 => ?_) (fun c53 => ?_)
            · skip
              have c53 := (not_congr (nI_eq (a := oF sg i) (b := cnt σ t - 1) (by omega) (by omega))).mp c53
              refine lv_aload hx hb dX6_rollBackObjects_66 (lv_at hl 0 rfl) ?_
              refine hx_Vv (rest := []) S X (c_X5_revert l G L F (ad 13 i 0 0) (ad 4 (oC sg i) 0 0) (ad 14 i 0 0) (nI (oF sg i)) (nI (oV sg i)) n13 q13) gX6_rollBackObjects_X5_revert rfl (n := 0) (by decide +kernel) rfl ⟨(Nat.le_of_ble_eq_true rfl), (Nat.le_of_ble_eq_true rfl)⟩ (xp_recv (ci := 5) X rfl n13 q13) hl.1 rfl (Nat.le_of_ble_eq_true rfl) dX6_rollBackObjects_68 ⟨(Nat.le_of_ble_eq_true rfl), (Nat.le_of_ble_eq_true rfl)⟩ (fun wd1 H locs hp X => ?_)
              have hlt : oF sg i < oV sg i := by omega
              have hp := hp.1 (nI_lt (a := oF sg i) (b := oV sg i) hlt (by omega))
              obtain rfl := hp
              have k1 : (va_up F (ad 13 i 0 0) (.inr (5, [.ref (ad 4 (oC sg i) 0 0), .int (nI (oF sg i)), .int (nI (oV sg i) - 1), .ref (ad 14 i 0 0)]))) (ad 0 0 0 0) = .inr (6, [.ref (ad 1 0 0 0), .int (nI (nC σ)), .ref (ad 2 0 0 0), .ref (ad 3 0 0 0), .int (nI (nO σ))]) := up_k q13 q0 (by simp)
              have k2 : (va_up F (ad 13 i 0 0) (.inr (5, [.ref (ad 4 (oC sg i) 0 0), .int (nI (oF sg i)), .int (nI (oV sg i) - 1), .ref (ad 14 i 0 0)]))) (ad 3 0 0 0) = hAQ G 7 24 (g3) := up_k q13 q3 (by simp)
              have k3 : (va_up F (ad 13 i 0 0) (.inr (5, [.ref (ad 4 (oC sg i) 0 0), .int (nI (oF sg i)), .int (nI (oV sg i) - 1), .ref (ad 14 i 0 0)]))) (ad 4 (oC sg i) 0 0) = .inr (1, [.int (nI (oC sg i)), .ref (ad 5 (oC sg i) 0 0), .ref (ad 6 (oC sg i) 0 0), .int (nI (cnt sg (oC sg i) - 1)), .int (sg 1 (162 * oC sg i + 1))]) := up_k q13 q4 (by simp)
              have k4 : (va_up F (ad 13 i 0 0) (.inr (5, [.ref (ad 4 (oC sg i) 0 0), .int (nI (oF sg i)), .int (nI (oV sg i) - 1), .ref (ad 14 i 0 0)]))) (ad 13 i 0 0) = .inr (5, [.ref (ad 4 (oC sg i) 0 0), .int (nI (oF sg i)), .int (nI (oV sg i) - 1), .ref (ad 14 i 0 0)]) := va_up_s _ _ _
              refine lv_iinc (v := nI (i + 1)) (lv' := [(3, .int (nI (i + 1))), (4, .ref (ad 13 i 0 0)), (0, .ref (ad 0 0 0 0)), (1, .int (nI (t))), (2, .int (nI (cnt σ t - 1)))]) hx hb dX6_rollBackObjects_71 hl (k := 4) rfl (nI_add (i) 1) (by decide) rfl (fun ls hl => ?_)
              refine lv_goto (tgt := 2) hx hb dX6_rollBackObjects_74 (by decide) ?_
              have hnx := hsr (hat.mpr ⟨hx1, c32, c41⟩) (fun q => c53 ((nI_eq (by omega) (by omega)).mp (o5.symm.trans q)))
              have hrx := rx_revert hIs.1 hv his hx1 hlt
              exact ih (i + 1) _ (by omega) (by rw [hnx]; exact hrx) _ _ _ X (lv_sub hl [2, 3, 4, 0] rfl)
            · skip
              have c53 := (nI_eq (a := oF sg i) (b := cnt σ t - 1) (by omega) (by omega)).mp c53
              refine lv_aload_n hx hb dX6_rollBackObjects_56 rfl (lv_at hl 1 rfl) ?_
              refine xp_get S X (ci := 6) n0 q0 rfl hin6 3 (by decide) (by decide +kernel) rfl dX6_rollBackObjects_57 ?_
              refine lv_iload_n hx hb dX6_rollBackObjects_60 rfl (lv_at hl 4 rfl) ?_
              refine lv_null hx hb dX6_rollBackObjects_61 ?_
              refine xp_astN S X 7 rfl n3 q3 (j := i) (by omega) (by decide) dX6_rollBackObjects_62 (fun H locs X => ?_)
              have k5 : (va_up F (ad 3 0 0 0) (hAQ G 7 24 (va_up (g3) (i) none))) (ad 0 0 0 0) = .inr (6, [.ref (ad 1 0 0 0), .int (nI (nC σ)), .ref (ad 2 0 0 0), .ref (ad 3 0 0 0), .int (nI (nO σ))]) := up_k q3 q0 (by simp)
              have k6 : (va_up F (ad 3 0 0 0) (hAQ G 7 24 (va_up (g3) (i) none))) (ad 13 i 0 0) = .inr (5, [.ref (ad 4 (oC sg i) 0 0), .int (nI (oF sg i)), .int (nI (oV sg i)), .ref (ad 14 i 0 0)]) := up_k q3 q13 (by simp)
              have k7 : (va_up F (ad 3 0 0 0) (hAQ G 7 24 (va_up (g3) (i) none))) (ad 4 (oC sg i) 0 0) = .inr (1, [.int (nI (oC sg i)), .ref (ad 5 (oC sg i) 0 0), .ref (ad 6 (oC sg i) 0 0), .int (nI (cnt sg (oC sg i) - 1)), .int (sg 1 (162 * oC sg i + 1))]) := up_k q3 q4 (by simp)
              have k8 : (va_up F (ad 3 0 0 0) (hAQ G 7 24 (va_up (g3) (i) none))) (ad 3 0 0 0) = hAQ G 7 24 (va_up (g3) (i) none) := va_up_s _ _ _
              refine lv_goto (tgt := 71) hx hb dX6_rollBackObjects_63 (by decide) ?_
              refine lv_iinc (v := nI (i + 1)) (lv' := [(3, .int (nI (i + 1))), (4, .ref (ad 13 i 0 0)), (0, .ref (ad 0 0 0 0)), (1, .int (nI (t))), (2, .int (nI (cnt σ t - 1)))]) hx hb dX6_rollBackObjects_71 hl (k := 4) rfl (nI_add (i) 1) (by decide) rfl (fun ls hl => ?_)
              refine lv_goto (tgt := 2) hx hb dX6_rollBackObjects_74 (by decide) ?_
              have hnx := hsd (hat.mpr ⟨hx1, c32, c41⟩) (by rw [o5, c53])
              have hrx := rx_delete hIs hv hts (by rw [eK]; exact noRun_of hks hnr) his hx1 c32 (by rw [eK]; exact c53) e3
              exact ih (i + 1) _ (by omega) (by rw [hnx]; exact hrx) _ _ _ X (lv_sub hl [2, 3, 4, 0] rfl)
          · skip
            have c41 := (not_congr (nI_eq (a := oV sg i) (b := cnt σ t - 1) (by omega) (by omega))).mp c41
            refine lv_goto (tgt := 71) hx hb dX6_rollBackObjects_44 (by decide) ?_
            refine lv_iinc (v := nI (i + 1)) (lv' := [(3, .int (nI (i + 1))), (4, .ref (ad 13 i 0 0)), (0, .ref (ad 0 0 0 0)), (1, .int (nI (t))), (2, .int (nI (cnt σ t - 1)))]) hx hb dX6_rollBackObjects_71 hl (k := 4) rfl (nI_add (i) 1) (by decide) rfl (fun ls hl => ?_)
            refine lv_goto (tgt := 2) hx hb dX6_rollBackObjects_74 (by decide) ?_
            have hnx := hsk (fun q => c41 (hat.mp q).2.2)
            exact ih (i + 1) F (by omega) (by rw [hnx]; exact hv) _ _ _ X (lv_sub hl [2, 3, 4, 0] rfl)
      · skip
        refine lv_iload_n hx hb dX6_rollBackObjects_2 rfl (lv_at hl 3 rfl) ?_
        refine lv_aload_n hx hb dX6_rollBackObjects_3 rfl (lv_at hl 0 rfl) ?_
        refine xp_get S X (ci := 6) n0 q0 rfl hin6 4 (by decide) (by decide +kernel) rfl dX6_rollBackObjects_4 ?_
        refine lv_icmp_ge (tgt := 77) hx hb dX6_rollBackObjects_7 (by decide) (fun c9 => absurd c9 (nI_ge (a := i) (b := nO σ) (by omega) (by omega))) (fun _ => ?_)
        refine lv_aload_n hx hb dX6_rollBackObjects_10 rfl (lv_at hl 0 rfl) ?_
        refine xp_get S X (ci := 6) n0 q0 rfl hin6 3 (by decide) (by decide +kernel) rfl dX6_rollBackObjects_11 ?_
        refine lv_iload_n hx hb dX6_rollBackObjects_14 rfl (lv_at hl 3 rfl) ?_
        refine xp_ald S X 7 rfl rfl n3 q3 (j := i) (by omega) (by decide) (x := .null) (by rw [(e3 i his).2 hx1]; rfl) dX6_rollBackObjects_15 ?_
        refine lv_astoreN (lv' := [(4, .null), (0, .ref (ad 0 0 0 0)), (1, .int (nI (t))), (2, .int (nI (cnt σ t - 1))), (3, .int (nI (i)))]) hx hb dX6_rollBackObjects_16 hl (by decide) rfl (fun ls hl => ?_)
        refine lv_aloadN hx hb dX6_rollBackObjects_18 (lv_at hl 0 rfl) ?_
        refine lv_ifnullN (tgt := 71) hx hb dX6_rollBackObjects_20 (by decide) ?_
        refine lv_iinc (v := nI (i + 1)) (lv' := [(3, .int (nI (i + 1))), (4, .null), (0, .ref (ad 0 0 0 0)), (1, .int (nI (t))), (2, .int (nI (cnt σ t - 1)))]) hx hb dX6_rollBackObjects_71 hl (k := 4) rfl (nI_add (i) 1) (by decide) rfl (fun ls hl => ?_)
        refine lv_goto (tgt := 2) hx hb dX6_rollBackObjects_74 (by decide) ?_
        have hnx := hsk (fun q => hx1 (hat.mp q).1)
        exact ih (i + 1) F (by omega) (by rw [hnx]; exact hv) _ _ _ X (lv_sub hl [2, 3, 4, 0] rfl)
  exact loop (nO σ) 0 f (by omega) hR _ _ _ X (lv_sub hl [1, 2, 3, 0] rfl)

set_option maxRecDepth 100000 in
set_option maxHeartbeats 4000000 in
theorem c_X6_rollback (l : Launch) (G : hG) (L : List Nat) (f : Nat → va_E) (ad : xAd) (σ : Sg) (type : Int32) (hI : Inv σ) (hR : RX G L f ad σ) (hFr : Fr σ) : hMi l G yX6_rollback wsX6_rollback ({ frames := 2, cells := 0, slots := 0, locals := 51 } : Room) (va_pl L f) [.ref (ad 0 0 0 0), .int (type)] (fun r w => r = (M_rollback σ type).1 ∧ XPo G (ad 0 0 0 0) (M_rollback σ type).2 w) := by
  refine hMi.of (cc := cX6_rollback) (maxL := 4) (some .int) RX6 rfl (by decide +kernel) rfl (Nat.le_of_ble_eq_true rfl) ?_
  intro p e s m args below meth c S hr hlk X ls hl
  have hx := S.1
  have hb := S.2.1
  have hown := S.2.2.2.1
  have hts := S.2.2.2.2
  have hl : lv_has ls 4 [(0, .ref (ad 0 0 0 0)), (1, .int (type))] := hl
  have hin0 : ∀ w ∈ wsX00, w ∈ wsX6_rollback := by decide +kernel
  have hin1 : ∀ w ∈ wsX10, w ∈ wsX6_rollback := by decide +kernel
  have hin3 : ∀ w ∈ wsX30, w ∈ wsX6_rollback := by decide +kernel
  have hin5 : ∀ w ∈ wsX50, w ∈ wsX6_rollback := by decide +kernel
  have hin6 : ∀ w ∈ wsX60, w ∈ wsX6_rollback := by decide +kernel
  have hC6 : nC σ ≤ 6 := hI.1.2
  have hO24 : nO σ ≤ 24 := hI.2.1.2
  obtain ⟨m0, f0⟩ := rx0 hR
  obtain ⟨g1, m1, f1, e1⟩ := rx1 hR
  obtain ⟨g2, m2, f2, e2⟩ := rx2 hR
  obtain ⟨g3, m3, f3, e3⟩ := rx3 hR
  refine lv_aload_n hx hb dX6_rollback_0 rfl (lv_at hl 0 rfl) ?_
  refine lv_iload_n hx hb dX6_rollback_1 rfl (lv_at hl 1 rfl) ?_
  refine hx_Vq (rest := []) S X (c_X6_historyOf l G L f ad σ (type) hI hR) gX6_rollback_X6_historyOf rfl (n := 1) (by decide +kernel) rfl ⟨(Nat.le_of_ble_eq_true rfl), (Nat.le_of_ble_eq_true rfl)⟩ (xp_recv (ci := 6) X rfl m0 f0) hl.1 rfl (Nat.le_of_ble_eq_true rfl) dX6_rollback_2 ⟨(Nat.le_of_ble_eq_true rfl), (Nat.le_of_ble_eq_true rfl)⟩ (fun r wd1 H locs hp X => ?_)
  obtain ⟨hr2, hs2, rfl⟩ := hp
  by_cases hC : isC σ (type)
  · skip
    have hC' := hC
    obtain ⟨t, ht, rfl⟩ := hC
    have hct : (nI t).toNatClampNeg = t := nI_clamp (by omega)
    obtain ⟨⟨hk0, hk1, hk2⟩, hks, hkv⟩ := hI.2.2.1 t ht
    obtain ⟨hm4, hf4⟩ := rx4 hR ht
    obtain ⟨gf, hm5, hf5, he5⟩ := rx5 hR ht
    obtain ⟨gc, hm6, hf6, he6⟩ := rx6 hR ht
    refine hx_eq (show r = some (ad 4 t 0 0) from hr2 t ht rfl) ?_
    refine lv_astore_n (lv' := [(2, .ref (ad 4 t 0 0)), (0, .ref (ad 0 0 0 0)), (1, .int (nI (t)))]) hx hb dX6_rollback_5 rfl hl (by decide) rfl (fun ls hl => ?_)
    refine lv_aload_n hx hb dX6_rollback_6 rfl (lv_at hl 0 rfl) ?_
    refine lv_ifnonnull (tgt := 13) hx hb dX6_rollback_7 (by decide) ?_
    refine lv_aload_n hx hb dX6_rollback_13 rfl (lv_at hl 0 rfl) ?_
    refine xp_getN (host := RX6) S X (ci := 1) hm4 hf4 rfl hin1 3 (by decide) (by decide +kernel) rfl dX6_rollback_14 ?_
    refine lv_istore_n (lv' := [(3, .int (nI (cnt σ t - 1))), (2, .ref (ad 4 t 0 0)), (0, .ref (ad 0 0 0 0)), (1, .int (nI (t)))]) hx hb dX6_rollback_17 rfl hl (by decide) rfl (fun ls hl => ?_)
    refine lv_iload_n hx hb dX6_rollback_18 rfl (lv_at hl 0 rfl) ?_
    refine lv_if_ne (tgt := 25) hx hb dX6_rollback_19 (by decide) (fun c19 => ?_) (fun c19 => ?_)
    · skip
      have c19 := (not_congr (nI_eq (a := cnt σ t - 1) (b := 0) (by omega) (by omega))).mp c19
      refine lv_aload_n hx hb dX6_rollback_25 rfl (lv_at hl 2 rfl) ?_
      refine lv_iload_n hx hb dX6_rollback_26 rfl (lv_at hl 3 rfl) ?_
      refine lv_iload_n hx hb dX6_rollback_27 rfl (lv_at hl 0 rfl) ?_
      refine lv_iload_n hx hb dX6_rollback_28 rfl (lv_at hl 0 rfl) ?_
      refine hx_Vi (rest := []) S X (c_X6_countFrames l G L f ad σ (nI (t)) (nI (cnt σ t - 1)) (nI (cnt σ t - 1)) hI hR) gX6_rollback_X6_countFrames rfl (n := 3) (by decide +kernel) rfl ⟨(Nat.le_of_ble_eq_true rfl), (Nat.le_of_ble_eq_true rfl)⟩ (xp_recv (ci := 6) X rfl m0 f0) hl.1 rfl (Nat.le_of_ble_eq_true rfl) dX6_rollback_29 ⟨(Nat.le_of_ble_eq_true rfl), (Nat.le_of_ble_eq_true rfl)⟩ (fun r wd1 H locs hp X => ?_)
      obtain ⟨rfl, rfl⟩ := hp
      refine lv_if_le (tgt := 38) hx hb dX6_rollback_32 (by decide) (fun c32 => ?_) (fun c32 => ?_)
      · skip
        have hnr : noRun σ t (cnt σ t - 1) := fun j hj q => by have h1 := (cfS_run hI (v := cnt σ t - 1) (t := t) (by omega) (by omega)).mpr ⟨j, hj, q⟩; have := (nI_leI (a := cfS σ (nI t) (nI (cnt σ t - 1)) (nI (cnt σ t - 1)) 4) (b := 0) (by have := cfS_le (type := nI t) (lo := nI (cnt σ t - 1)) (up := nI (cnt σ t - 1)) (hd8_of hI) 4 (by omega); omega) (by omega)).mp c32; omega
        refine lv_aload_n hx hb dX6_rollback_38 rfl (lv_at hl 2 rfl) ?_
        refine lv_iload_n hx hb dX6_rollback_39 rfl (lv_at hl 3 rfl) ?_
        refine lv_iload_n hx hb dX6_rollback_40 rfl (lv_at hl 0 rfl) ?_
        refine hx_Vv (rest := []) S X (c_X6_rollBackObjects l G L f ad σ t hI hR hFr ht hnr) gX6_rollback_X6_rollBackObjects rfl (n := 2) (by decide +kernel) rfl ⟨(Nat.le_of_ble_eq_true rfl), (Nat.le_of_ble_eq_true rfl)⟩ (xp_recv (ci := 6) X rfl m0 f0) hl.1 rfl (Nat.le_of_ble_eq_true rfl) dX6_rollback_41 ⟨(Nat.le_of_ble_eq_true rfl), (Nat.le_of_ble_eq_true rfl)⟩ (fun wd1 H locs hp X => ?_)
        obtain ⟨f2, rfl, hR2⟩ := hp
        obtain ⟨hIs, hks, -, -⟩ := rb_all ⟨hI, hFr⟩ ht hnr (nO σ) (Nat.le_refl _)
        have hM : M_rollback σ (nI t) = (nI (cnt σ t - 1) - 1, mS (mS (rbL σ (nI t) (nI (cnt σ t - 1)) (nO σ)) 1 (162 * t + 1) 0) 1 (162 * t + 0) (nI (cnt σ t - 1))) := by rw [M_rollback, wif_t hC', show cN (nI t) = t from hct, wif_f c19, wif_f (fun ⟨j, hj, q⟩ => hnr j hj q)]
        generalize rbL σ (nI t) (nI (cnt σ t - 1)) (nO σ) = sg at *
        have eC : nC sg = nC σ := by unfold nC; rw [hks 0 (by decide) (by decide) (by decide)]
        have eK : ∀ u, cnt sg u = cnt σ u := fun u => by unfold cnt; rw [hks 1 (by decide) (by decide) (by decide)]
        have hts : t < nC sg := by omega
        obtain ⟨n4, q4⟩ := rx4 hR2 hts
        rw [eK] at q4
        refine lv_aload_n hx hb dX6_rollback_44 rfl (lv_at hl 1 rfl) ?_
        refine hx_Vi (rest := []) S X (c_X1_removeCurrent l G L f2 (ad 4 t 0 0) (ad 5 t 0 0) (ad 6 t 0 0) (cnt σ t - 1) (nI (t)) (sg 1 (162 * t + 1)) n4 q4 (by omega)) gX6_rollback_X1_removeCurrent rfl (n := 0) (by decide +kernel) rfl ⟨(Nat.le_of_ble_eq_true rfl), (Nat.le_of_ble_eq_true rfl)⟩ (xp_recv (ci := 1) X rfl n4 q4) hl.1 rfl (Nat.le_of_ble_eq_true rfl) dX6_rollback_45 ⟨(Nat.le_of_ble_eq_true rfl), (Nat.le_of_ble_eq_true rfl)⟩ (fun r wd1 H locs hp X => ?_)
        obtain ⟨rfl, rfl⟩ := hp
        have hq := rx_rem hIs.1 hR2 hts
        rw [eK] at hq
        exact hx_iret S X hr hlk (Nat.le_of_ble_eq_true rfl) (Nat.le_of_ble_eq_true rfl) ⟨by rw [hM]; exact (nI_pred2 (by omega)).symm, by rw [hM]; exact ⟨_, _, _, rfl, hq, rfl⟩⟩ dX6_rollback_48
      · skip
        have hrun : ∃ j, j < 32 ∧ runP σ (nI t) (nI (cnt σ t - 1)) j := (cfS_run hI (by omega) (by omega)).mp (by have := (not_congr (nI_leI (a := cfS σ (nI t) (nI (cnt σ t - 1)) (nI (cnt σ t - 1)) 4) (b := 0) (by have := cfS_le (type := nI t) (lo := nI (cnt σ t - 1)) (up := nI (cnt σ t - 1)) (hd8_of hI) 4 (by omega); omega) (by omega))).mp c32; omega)
        refine lv_ldc (v := -2000015) hx hb hown (hts (Cond.constant RX6 93 (-2000015)) (by decide +kernel)) dX6_rollback_35 ?_
        exact hx_iret S X hr hlk (Nat.le_of_ble_eq_true rfl) (Nat.le_of_ble_eq_true rfl) ⟨by simp [M_rollback, wif_t, wif_f, hC', hct, c19, c32, hrun], by simp [M_rollback, wif_t, wif_f, hC', hct, c19, c32, hrun]; exact ⟨L, f, ad, rfl, hR, rfl⟩⟩ dX6_rollback_37
    · skip
      have c19 := (nI_eq (a := cnt σ t - 1) (b := 0) (by omega) (by omega)).mp c19
      refine lv_ldc (v := -2000002) hx hb hown (hts (Cond.constant RX6 45 (-2000002)) (by decide +kernel)) dX6_rollback_22 ?_
      exact hx_iret S X hr hlk (Nat.le_of_ble_eq_true rfl) (Nat.le_of_ble_eq_true rfl) ⟨by simp [M_rollback, wif_t, wif_f, hC', hct, c19], by simp [M_rollback, wif_t, wif_f, hC', hct, c19]; exact ⟨L, f, ad, rfl, hR, rfl⟩⟩ dX6_rollback_24
  · skip
    refine hx_eq (show r = none from hs2 hC) ?_
    refine lv_astore_nN (lv' := [(2, .null), (0, .ref (ad 0 0 0 0)), (1, .int (type))]) hx hb dX6_rollback_5 rfl hl (by decide) rfl (fun ls hl => ?_)
    refine lv_aload_nN hx hb dX6_rollback_6 rfl (lv_at hl 0 rfl) ?_
    refine lv_ifnonnullN hx hb dX6_rollback_7 ?_
    refine lv_ldc (v := -2000001) hx hb hown (hts (Cond.constant RX6 41 (-2000001)) (by decide +kernel)) dX6_rollback_10 ?_
    exact hx_iret S X hr hlk (Nat.le_of_ble_eq_true rfl) (Nat.le_of_ble_eq_true rfl) ⟨by simp [M_rollback, wif_t, wif_f, hC], by simp [M_rollback, wif_t, wif_f, hC]; exact ⟨L, f, ad, rfl, hR, rfl⟩⟩ dX6_rollback_12
