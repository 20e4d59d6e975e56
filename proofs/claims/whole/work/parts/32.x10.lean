/-! the face's writers: objects -/
section XD10
variable {G : hG} {L : List Nat} {f : Nat → va_E} {ad : xAd} {σ : Sg}
theorem ch8 {α : Type} [Inhabited α] {p : Nat → α → Prop} (h : ∀ v, v < 8 → ∃ x, p v x) : ∃ g : Nat → α, ∀ v, v < 8 → p v (g v) := by
  refine ⟨fun v => if hv : v < 8 then Classical.choose (h v hv) else default, fun v hv => ?_⟩
  show p v (if hv : v < 8 then Classical.choose (h v hv) else default)
  rw [dif_pos hv]
  exact Classical.choose_spec (h v hv)
theorem rx_rows (hR : RX G L f ad σ) {o : Nat} (ho : o < nO σ) (hx : σ 6 o = 1) : ∃ rv : Nat → Nat → Int32, ∀ v, v < 8 → f (ad 15 o v 0) = hAI G 8 (rv v) :=
  ch8 (p := fun v g => f (ad 15 o v 0) = hAI G 8 g) (fun v hv => by obtain ⟨g, _, q, _⟩ := rx15 hR ho hx hv; exact ⟨g, q⟩)
theorem rx_stps (hR : RX G L f ad σ) {C : Nat} (hC : C < nC σ) : ∃ gs : Nat → Nat → Option Nat, ∀ v, v < 8 → f (ad 8 C v 0) = hAQ G 6 6 (gs v) ∧ ∀ k, k < stp σ C v → gs v k = some (ad 9 C v k) :=
  ch8 (p := fun v g => f (ad 8 C v 0) = hAQ G 6 6 g ∧ ∀ k, k < stp σ C v → g k = some (ad 9 C v k)) (fun v hv => by obtain ⟨g, _, q, q2⟩ := rx8 hR hC hv; exact ⟨g, q, q2⟩)
theorem rd_err {a b c e : Int32} {s : Sg} (h : M_access σ a b c = (e, s)) (he : ¬ e = 0) : M_read σ a b c = (e, s) := by
  rw [M_read, h, wif_f he]
theorem rd_ok {u : Sg} {th o fd j : Nat} (ho : o < 24) (hf : fd < 8) (h : M_access σ (nI th) (nI o) (nI fd) = (0, pinS u j o)) : M_read σ (nI th) (nI o) (nI fd) = (u 10 (cel o (oV u o) fd), pinS u j o) := by
  rw [M_read, h, wif_t rfl, show cN (nI o) = o from nI_clamp (by omega), show cN (nI fd) = fd from nI_clamp (by omega)]
  show (pinS u j o 10 (cel o (oV (pinS u j o) o) fd), pinS u j o) = _
  have e8 : oV (pinS u j o) o = oV u o := by unfold oV pinS; rw [mS_nk _ _ _ _ (by decide)]
  rw [e8]
  unfold pinS
  rw [mS_nk _ _ _ _ (by decide)]
end XD10
set_option maxRecDepth 100000 in
set_option maxHeartbeats 4000000 in
theorem c_X6_access (l : Launch) (G : hG) (L : List Nat) (f : Nat → va_E) (ad : xAd) (σ : Sg) (thread object field : Int32) (hI : Inv σ) (hR : RX G L f ad σ) (hFr : Fr σ) : hMi l G yX6_access wsX6_access ({ frames := 5, cells := 0, slots := 0, locals := 109 } : Room) (va_pl L f) [.ref (ad 0 0 0 0), .int (thread), .int (object), .int (field)] (fun r w => r = (M_read σ thread object field).1 ∧ XPo G (ad 0 0 0 0) (M_read σ thread object field).2 w) := by
  refine hMi.of (cc := cX6_access) (maxL := 7) (some .int) RX6 rfl (by decide +kernel) rfl (Nat.le_of_ble_eq_true rfl) ?_
  intro p e s m args below meth c S hr hlk X ls hl
  have hx := S.1
  have hb := S.2.1
  have hown := S.2.2.2.1
  have hts := S.2.2.2.2
  have hl : lv_has ls 7 [(0, .ref (ad 0 0 0 0)), (1, .int (thread)), (2, .int (object)), (3, .int (field))] := hl
  have hin0 : ∀ w ∈ wsX00, w ∈ wsX6_access := by decide +kernel
  have hin1 : ∀ w ∈ wsX10, w ∈ wsX6_access := by decide +kernel
  have hin2 : ∀ w ∈ wsX20, w ∈ wsX6_access := by decide +kernel
  have hin3 : ∀ w ∈ wsX30, w ∈ wsX6_access := by decide +kernel
  have hin4 : ∀ w ∈ wsX40, w ∈ wsX6_access := by decide +kernel
  have hin5 : ∀ w ∈ wsX50, w ∈ wsX6_access := by decide +kernel
  have hin6 : ∀ w ∈ wsX60, w ∈ wsX6_access := by decide +kernel
  have hC6 : nC σ ≤ 6 := hI.1.2
  have hO24 : nO σ ≤ 24 := hI.2.1.2
  obtain ⟨m0, f0⟩ := rx0 hR
  obtain ⟨g1, m1, f1, e1⟩ := rx1 hR
  obtain ⟨g2, m2, f2, e2⟩ := rx2 hR
  obtain ⟨g3, m3, f3, e3⟩ := rx3 hR
  refine lv_aload_n hx hb dX6_access_0 rfl (lv_at hl 0 rfl) ?_
  refine lv_iload_n hx hb dX6_access_1 rfl (lv_at hl 1 rfl) ?_
  refine hx_Vq (rest := []) S X (c_X6_stackOf l G L f ad σ (thread) hI hR) gX6_access_X6_stackOf rfl (n := 1) (by decide +kernel) rfl ⟨(Nat.le_of_ble_eq_true rfl), (Nat.le_of_ble_eq_true rfl)⟩ (xp_recv (ci := 6) X rfl m0 f0) hl.1 rfl (Nat.le_of_ble_eq_true rfl) dX6_access_2 ⟨(Nat.le_of_ble_eq_true rfl), (Nat.le_of_ble_eq_true rfl)⟩ (fun r wd1 H locs hp X => ?_)
  obtain ⟨hr2, hs2, rfl⟩ := hp
  by_cases hT : isT (thread)
  · skip
    have hT' := hT
    obtain ⟨th, hth, rfl⟩ := hT
    have hcth : (nI th).toNatClampNeg = th := nI_clamp (by omega)
    obtain ⟨hd0, hd8⟩ := hI.2.2.2.1 th hth
    obtain ⟨hm10, hf10⟩ := rx10 hR hth
    obtain ⟨g11, hm11, hf11, he11⟩ := rx11 hR hth
    refine hx_eq (show r = some (ad 10 th 0 0) from hr2 th hth rfl) ?_
    refine lv_astore (lv' := [(4, .ref (ad 10 th 0 0)), (0, .ref (ad 0 0 0 0)), (1, .int (nI (th))), (2, .int (object)), (3, .int (field))]) hx hb dX6_access_5 hl (by decide) rfl (fun ls hl => ?_)
    refine lv_aload hx hb dX6_access_7 (lv_at hl 0 rfl) ?_
    refine lv_ifnonnull (tgt := 15) hx hb dX6_access_9 (by decide) ?_
    refine lv_aload hx hb dX6_access_15 (lv_at hl 0 rfl) ?_
    refine hx_Vq (rest := []) S X (c_X0_top l G L f (ad 10 th 0 0) (ad 11 th 0 0) (dN σ th) g11 hm10 hf10 hm11 hf11 hd8) gX6_access_X0_top rfl (n := 0) (by decide +kernel) rfl ⟨(Nat.le_of_ble_eq_true rfl), (Nat.le_of_ble_eq_true rfl)⟩ (xp_recv (ci := 0) X rfl hm10 hf10) hl.1 rfl (Nat.le_of_ble_eq_true rfl) dX6_access_17 ⟨(Nat.le_of_ble_eq_true rfl), (Nat.le_of_ble_eq_true rfl)⟩ (fun r wd1 H locs hp X => ?_)
    obtain ⟨hs17, hr17, rfl⟩ := hp
    by_cases hK : ¬ dN σ th = 0
    · skip
      have hk : dN σ th - 1 < dN σ th := by omega
      have hlv : liv σ (topF σ th) := topF_liv hK hd8
      have hfr : topF σ th < 32 := topF_lt hth hd8
      obtain ⟨⟨j1, j2⟩, ⟨j3, j4⟩, j5⟩ := hI.2.2.2.2.1 (topF σ th) hfr hlv
      have jk8 : cnt σ (fC σ (topF σ th)) ≤ 8 := (hI.2.2.1 _ j2).1.2.2
      have hm12 := (rx12 hR hth hk).1
      have hf12 : f (ad 12 th (dN σ th - 1) 0) = .inr (3, [.ref (ad 4 (fC σ (topF σ th)) 0 0), .int (nI (fV σ (topF σ th))), .int (σ 5 (topF σ th))]) := (rx12 hR hth hk).2
      obtain ⟨hmf4, hff4⟩ := rx4 hR j2
      obtain ⟨gff, hmf5, hff5, hef5⟩ := rx5 hR j2
      refine hx_eq (show r = some (ad 12 th (dN σ th - 1) 0) from (hr17 (by omega)).trans (he11 _ (by omega))) ?_
      refine lv_astore (lv' := [(5, .ref (ad 12 th (dN σ th - 1) 0)), (4, .ref (ad 10 th 0 0)), (0, .ref (ad 0 0 0 0)), (1, .int (nI (th))), (2, .int (object)), (3, .int (field))]) hx hb dX6_access_20 hl (by decide) rfl (fun ls hl => ?_)
      refine lv_aload hx hb dX6_access_22 (lv_at hl 0 rfl) ?_
      refine lv_ifnonnull (tgt := 30) hx hb dX6_access_24 (by decide) ?_
      refine lv_aload_n hx hb dX6_access_30 rfl (lv_at hl 2 rfl) ?_
      refine lv_iload_n hx hb dX6_access_31 rfl (lv_at hl 4 rfl) ?_
      refine hx_Vq (rest := []) S X (c_X6_existingObject l G L f ad σ (object) hI hR) gX6_access_X6_existingObject rfl (n := 1) (by decide +kernel) rfl ⟨(Nat.le_of_ble_eq_true rfl), (Nat.le_of_ble_eq_true rfl)⟩ (xp_recv (ci := 6) X rfl m0 f0) hl.1 rfl (Nat.le_of_ble_eq_true rfl) dX6_access_32 ⟨(Nat.le_of_ble_eq_true rfl), (Nat.le_of_ble_eq_true rfl)⟩ (fun r wd1 H locs hp X => ?_)
      obtain ⟨hr32, hs32, rfl⟩ := hp
      by_cases hO : isO σ (object)
      · skip
        have hO' := hO
        obtain ⟨o, ⟨ho, hex⟩, rfl⟩ := hO
        have hco : (nI o).toNatClampNeg = o := nI_clamp (by omega)
        obtain ⟨⟨ho0, ho1⟩, ⟨ho2, ho3⟩, ⟨ho4, ho5⟩, hov⟩ := (hI.2.2.2.2.2 o ho).2 hex
        have hk8 : cnt σ (oC σ o) ≤ 8 := (hI.2.2.1 _ ho1).1.2.2
        have hk1o : 1 ≤ cnt σ (oC σ o) := (hI.2.2.1 _ ho1).1.2.1
        obtain ⟨hm13, hf13⟩ := rx13 hR ho hex
        obtain ⟨g14, hm14, hf14, he14⟩ := rx14 hR ho hex
        obtain ⟨hmo4, hfo4⟩ := rx4 hR ho1
        obtain ⟨gf, hm5, hf5, he5⟩ := rx5 hR ho1
        refine hx_eq (show r = some (ad 13 o 0 0) from hr32 o ho hex rfl) ?_
        refine lv_astore (lv' := [(6, .ref (ad 13 o 0 0)), (5, .ref (ad 12 th (dN σ th - 1) 0)), (4, .ref (ad 10 th 0 0)), (0, .ref (ad 0 0 0 0)), (1, .int (nI (th))), (2, .int (nI (o))), (3, .int (field))]) hx hb dX6_access_35 hl (by decide) rfl (fun ls hl => ?_)
        refine lv_aload hx hb dX6_access_37 (lv_at hl 0 rfl) ?_
        refine lv_ifnonnull (tgt := 45) hx hb dX6_access_39 (by decide) ?_
        refine lv_aload hx hb dX6_access_45 (lv_at hl 0 rfl) ?_
        refine xp_getN (host := RX6) S X (ci := 5) hm13 hf13 rfl hin5 0 (by decide) (by decide +kernel) rfl dX6_access_47 ?_
        refine xp_getN (host := RX6) S X (ci := 1) hmo4 hfo4 rfl hin1 0 (by decide) (by decide +kernel) rfl dX6_access_50 ?_
        refine lv_aload hx hb dX6_access_53 (lv_at hl 1 rfl) ?_
        refine xp_getN (host := RX6) S X (ci := 3) hm12 hf12 rfl hin3 0 (by decide) (by decide +kernel) rfl dX6_access_55 ?_
        refine xp_getN (host := RX6) S X (ci := 1) hmf4 hff4 rfl hin1 0 (by decide) (by decide +kernel) rfl dX6_access_58 ?_
        refine lv_icmp_eq (tgt := 67) hx hb dX6_access_61 (by decide) (fun c61 => ?_) (fun c61 => ?_)
        · skip
          have c61 := (nI_eq (a := oC σ o) (b := fC σ (topF σ th)) (by omega) (by omega)).mp c61
          have e61 : fC σ (topF σ th) = oC σ o := c61.symm
          refine lv_aload hx hb dX6_access_67 (lv_at hl 1 rfl) ?_
          refine xp_getN (host := RX6) S X (ci := 3) hm12 hf12 rfl hin3 0 (by decide) (by decide +kernel) rfl dX6_access_69 ?_
          refine lv_aload hx hb dX6_access_72 (lv_at hl 1 rfl) ?_
          refine xp_getN (host := RX6) S X (ci := 3) hm12 hf12 rfl hin3 1 (by decide) (by decide +kernel) rfl dX6_access_74 ?_
          refine hx_Vi (rest := []) S X (c_X1_fieldSet l G L f (ad 4 (fC σ (topF σ th)) 0 0) (ad 5 (fC σ (topF σ th)) 0 0) (ad 6 (fC σ (topF σ th)) 0 0) (cnt σ (fC σ (topF σ th)) - 1) (fV σ (topF σ th)) (nI (fC σ (topF σ th))) (σ 1 (162 * fC σ (topF σ th) + 1)) (gff) hmf4 hff4 hmf5 hff5 (by omega)) gX6_access_X1_fieldSet rfl (n := 1) (by decide +kernel) rfl ⟨(Nat.le_of_ble_eq_true rfl), (Nat.le_of_ble_eq_true rfl)⟩ (xp_recv (ci := 1) X rfl hmf4 hff4) hl.1 rfl (Nat.le_of_ble_eq_true rfl) dX6_access_77 ⟨(Nat.le_of_ble_eq_true rfl), (Nat.le_of_ble_eq_true rfl)⟩ (fun r wd1 H locs hp X => ?_)
          obtain ⟨rfl, rfl⟩ := hp
          refine hx_ei (show _ = σ 1 (162 * oC σ o + (2 + fV σ (topF σ th))) from by rw [c61]; exact hef5 _ (by omega)) ?_
          refine lv_iload_n hx hb dX6_access_80 rfl (lv_at hl 6 rfl) ?_
          refine hx_Si (rest := []) S X (c_X6_contains l G _ (σ 1 (162 * oC σ o + (2 + fV σ (topF σ th)))) (field)) gX6_access_X6_contains rfl (n := 2) (by decide +kernel) rfl ⟨(Nat.le_of_ble_eq_true rfl), (Nat.le_of_ble_eq_true rfl)⟩ hl.1 rfl (Nat.le_of_ble_eq_true rfl) dX6_access_81 ⟨(Nat.le_of_ble_eq_true rfl), (Nat.le_of_ble_eq_true rfl)⟩ (fun r wd1 H locs hp X => ?_)
          obtain ⟨hr81, rfl⟩ := hp
          by_cases hF : hasF (σ 1 (162 * oC σ o + (2 + fV σ (topF σ th)))) (field)
          · skip
            refine hx_ei (hr81.1 hF) ?_
            have hF' := hF
            obtain ⟨⟨fd, hfd, rfl⟩, hbit⟩ := hF
            have hcf : (nI fd).toNatClampNeg = fd := nI_clamp (by omega)
            refine lv_if_ne (tgt := 90) hx hb dX6_access_84 (by decide) (fun _ => ?_) (fun c9 => absurd c9 (by decide))
            refine lv_aload hx hb dX6_access_90 (lv_at hl 0 rfl) ?_
            refine xp_getN (host := RX6) S X (ci := 5) hm13 hf13 rfl hin5 2 (by decide) (by decide +kernel) rfl dX6_access_92 ?_
            refine lv_aload hx hb dX6_access_95 (lv_at hl 1 rfl) ?_
            refine xp_getN (host := RX6) S X (ci := 3) hm12 hf12 rfl hin3 1 (by decide) (by decide +kernel) rfl dX6_access_97 ?_
            refine lv_icmp_le (tgt := 106) hx hb dX6_access_100 (by decide) (fun c100 => ?_) (fun c100 => ?_)
            · skip
              have c100 := (nI_leI (a := oV σ o) (b := fV σ (topF σ th)) (by omega) (by omega)).mp c100
              have e100 : ¬ fV σ (topF σ th) < oV σ o := by omega
              have tail : ∀ (u : Sg) (F : Nat → va_E), Inv u → RX G L F ad u → (∀ k, k ≠ 8 → k ≠ 10 → u k = σ k) → M_access σ (nI th) (nI o) (nI fd) = (0, pinS u (topF σ th) o) → ∀ (H : Heap) (locs : List Loc) (ls : Array Slot), hH G (va_A (va_pl L f) s.heap.size) s.heap s (va_pl L F) H locs → lv_has ls 7 [(0, .ref (ad 0 0 0 0)), (1, .int (nI (th))), (2, .int (nI (o))), (3, .int (nI (fd))), (4, .ref (ad 10 th 0 0)), (5, .ref (ad 12 th (dN σ th - 1) 0)), (6, .ref (ad 13 o 0 0))] → W p l e ({ frames := 5, cells := 0, slots := 0, locals := 109 } : Room) s m args below meth c H locs 0 0 (MQ below (va_Qi (fun r w => r = (M_read σ (nI th) (nI o) (nI fd)).1 ∧ XPo G (ad 0 0 0 0) (M_read σ (nI th) (nI o) (nI fd)).2 w) (hB G (va_A (va_pl L f) s.heap.size)) (va_A (va_pl L f) s.heap.size)) args s 0 0 (va_A (va_pl L f) s.heap.size)) (F0 m 151 ls []) := by
                intro u F hIu hRu hku hMa H locs ls X hl
                have hou : o < nO u := by unfold nO at ho ⊢; rw [hku 0 (by decide) (by decide)]; exact ho
                have hxu : u 6 o = 1 := by rw [hku 6 (by decide) (by decide)]; exact hex
                have hDu : dN u th = dN σ th := by unfold dN; rw [hku 2 (by decide) (by decide)]
                have hku2 : dN σ th - 1 < dN u th := by omega
                obtain ⟨⟨u0, u1⟩, ⟨u2, u3⟩, ⟨u4, u5⟩, u6⟩ := (hIu.2.2.2.2.2 o hou).2 hxu
                have uk8 : cnt u (oC u o) ≤ 8 := (hIu.2.2.1 _ u1).1.2.2
                obtain ⟨km13, kf13⟩ := rx13 hRu hou hxu
                obtain ⟨g14u, km14, kf14, k14⟩ := rx14 hRu hou hxu
                obtain ⟨gv, km15, kf15, k15⟩ := rx15 hRu hou hxu (v := oV u o) (by omega)
                have km12 := (rx12 hRu hth hku2).1
                have kf12 : F (ad 12 th (dN σ th - 1) 0) = .inr (3, [.ref (ad 4 (fC u (8 * th + (dN σ th - 1))) 0 0), .int (nI (fV u (8 * th + (dN σ th - 1)))), .int (u 5 (8 * th + (dN σ th - 1)))]) := (rx12 hRu hth hku2).2
                refine lv_aload hx hb dX6_access_151 (lv_at hl 5 rfl) ?_
                refine lv_iload_n hx hb dX6_access_153 rfl (lv_at hl 2 rfl) ?_
                refine hx_Vv (rest := []) S X (c_X3_pin l G L F (ad 12 th (dN σ th - 1) 0) (ad 4 (fC u (8 * th + (dN σ th - 1))) 0 0) (nI (fV u (8 * th + (dN σ th - 1)))) (u 5 (8 * th + (dN σ th - 1))) (nI (o)) km12 kf12) gX6_access_X3_pin rfl (n := 1) (by decide +kernel) rfl ⟨(Nat.le_of_ble_eq_true rfl), (Nat.le_of_ble_eq_true rfl)⟩ (xp_recv (ci := 3) X rfl km12 kf12) hl.1 rfl (Nat.le_of_ble_eq_true rfl) dX6_access_154 ⟨(Nat.le_of_ble_eq_true rfl), (Nat.le_of_ble_eq_true rfl)⟩ (fun wd1 H locs hp X => ?_)
                obtain rfl := hp
                have k1 : (va_up F (ad 12 th (dN σ th - 1) 0) (.inr (3, [.ref (ad 4 (fC u (8 * th + (dN σ th - 1))) 0 0), .int (nI (fV u (8 * th + (dN σ th - 1)))), .int ((u 5 (8 * th + (dN σ th - 1))) ||| (1 : Int32) <<< ((nI (o)) &&& 31))]))) (ad 13 o 0 0) = .inr (5, [.ref (ad 4 (oC u o) 0 0), .int (nI (oF u o)), .int (nI (oV u o)), .ref (ad 14 o 0 0)]) := up_k kf12 kf13 (by simp)
                have k2 : (va_up F (ad 12 th (dN σ th - 1) 0) (.inr (3, [.ref (ad 4 (fC u (8 * th + (dN σ th - 1))) 0 0), .int (nI (fV u (8 * th + (dN σ th - 1)))), .int ((u 5 (8 * th + (dN σ th - 1))) ||| (1 : Int32) <<< ((nI (o)) &&& 31))]))) (ad 14 o 0 0) = hAQ G 8 8 (g14u) := up_k kf12 kf14 (by simp)
                have k3 : (va_up F (ad 12 th (dN σ th - 1) 0) (.inr (3, [.ref (ad 4 (fC u (8 * th + (dN σ th - 1))) 0 0), .int (nI (fV u (8 * th + (dN σ th - 1)))), .int ((u 5 (8 * th + (dN σ th - 1))) ||| (1 : Int32) <<< ((nI (o)) &&& 31))]))) (ad 15 o (oV u o) 0) = hAI G 8 (gv) := up_k kf12 kf15 (by simp)
                have k4 : (va_up F (ad 12 th (dN σ th - 1) 0) (.inr (3, [.ref (ad 4 (fC u (8 * th + (dN σ th - 1))) 0 0), .int (nI (fV u (8 * th + (dN σ th - 1)))), .int ((u 5 (8 * th + (dN σ th - 1))) ||| (1 : Int32) <<< ((nI (o)) &&& 31))]))) (ad 12 th (dN σ th - 1) 0) = .inr (3, [.ref (ad 4 (fC u (8 * th + (dN σ th - 1))) 0 0), .int (nI (fV u (8 * th + (dN σ th - 1)))), .int ((u 5 (8 * th + (dN σ th - 1))) ||| (1 : Int32) <<< ((nI (o)) &&& 31))]) := va_up_s _ _ _
                refine lv_aload hx hb dX6_access_157 (lv_at hl 6 rfl) ?_
                refine lv_iload_n hx hb dX6_access_159 rfl (lv_at hl 3 rfl) ?_
                refine hx_Vi (rest := []) S X (c_X5_valueOf l G L (va_up F (ad 12 th (dN σ th - 1) 0) (.inr (3, [.ref (ad 4 (fC u (8 * th + (dN σ th - 1))) 0 0), .int (nI (fV u (8 * th + (dN σ th - 1)))), .int ((u 5 (8 * th + (dN σ th - 1))) ||| (1 : Int32) <<< ((nI (o)) &&& 31))]))) (ad 13 o 0 0) (ad 4 (oC u o) 0 0) (ad 14 o 0 0) (ad 15 o (oV u o) 0) (oV u o) (fd) (nI (oF u o)) (g14u) gv km13 k1 km14 k2 km15 k3 (k14 _ (by omega)) (by omega) (by omega)) gX6_access_X5_valueOf rfl (n := 1) (by decide +kernel) rfl ⟨(Nat.le_of_ble_eq_true rfl), (Nat.le_of_ble_eq_true rfl)⟩ (xp_recv (ci := 5) X rfl km13 k1) hl.1 rfl (Nat.le_of_ble_eq_true rfl) dX6_access_160 ⟨(Nat.le_of_ble_eq_true rfl), (Nat.le_of_ble_eq_true rfl)⟩ (fun r wd1 H locs hp X => ?_)
                obtain ⟨rfl, rfl⟩ := hp
                have hM := rd_ok (by omega) (by omega) hMa
                have hP := rx_pin hIu hRu hth hku2 (u 5 (8 * th + (dN σ th - 1)) ||| (1 : Int32) <<< (nI o &&& 31))
                exact hx_iret S X hr hlk (Nat.le_of_ble_eq_true rfl) (Nat.le_of_ble_eq_true rfl) ⟨by rw [hM]; exact k15 (by omega) (Nat.le_refl _) _ (by omega), by rw [hM]; exact ⟨L, _, ad, rfl, hP, rfl⟩⟩ dX6_access_163
              refine lv_aload hx hb dX6_access_106 (lv_at hl 0 rfl) ?_
              refine xp_getN (host := RX6) S X (ci := 5) hm13 hf13 rfl hin5 2 (by decide) (by decide +kernel) rfl dX6_access_108 ?_
              refine lv_aload hx hb dX6_access_111 (lv_at hl 1 rfl) ?_
              refine xp_getN (host := RX6) S X (ci := 3) hm12 hf12 rfl hin3 1 (by decide) (by decide +kernel) rfl dX6_access_113 ?_
              refine lv_icmp_ge (tgt := 151) hx hb dX6_access_116 (by decide) (fun c116 => ?_) (fun c116 => ?_)
              · skip
                have c116 := (nI_leI (a := fV σ (topF σ th)) (b := oV σ o) (by omega) (by omega)).mp c116
                have e116 : ¬ oV σ o < fV σ (topF σ th) := by omega
                exact tail σ f hI hR (fun _ _ _ => rfl) (by simp [M_access, M_acc, wif_t, wif_f, hT', hcth, hK, hO', hco, e61, hF', hcf, e100, e116]) _ _ _ X (lv_sub hl [3, 4, 5, 6, 2, 1, 0] rfl)
              · skip
                have c116 := (not_congr (nI_leI (a := fV σ (topF σ th)) (b := oV σ o) (by omega) (by omega))).mp c116
                have e116 : oV σ o < fV σ (topF σ th) := by omega
                refine lv_aload_n hx hb dX6_access_119 rfl (lv_at hl 3 rfl) ?_
                refine lv_iload_n hx hb dX6_access_120 rfl (lv_at hl 5 rfl) ?_
                refine hx_Vi (rest := []) S X (c_X6_smallestPin l G L f ad σ (nI (o)) hI hR) gX6_access_X6_smallestPin rfl (n := 1) (by decide +kernel) rfl ⟨(Nat.le_of_ble_eq_true rfl), (Nat.le_of_ble_eq_true rfl)⟩ (xp_recv (ci := 6) X rfl m0 f0) hl.1 rfl (Nat.le_of_ble_eq_true rfl) dX6_access_121 ⟨(Nat.le_of_ble_eq_true rfl), (Nat.le_of_ble_eq_true rfl)⟩ (fun r wd1 H locs hp X => ?_)
                obtain ⟨rfl, rfl⟩ := hp
                refine lv_aload hx hb dX6_access_124 (lv_at hl 1 rfl) ?_
                refine xp_getN (host := RX6) S X (ci := 3) hm12 hf12 rfl hin3 1 (by decide) (by decide +kernel) rfl dX6_access_126 ?_
                refine lv_icmp_ge (tgt := 135) hx hb dX6_access_129 (by decide) (fun c129 => ?_) (fun c129 => ?_)
                · skip
                  have e129 : ¬ ∃ j, j < 32 ∧ helP σ (nI o) (nI (fV σ (topF σ th))) j := fun q => absurd ((spS_hel hI (nI o) (by omega)).mpr q) (Int32.not_lt.mpr c129)
                  refine lv_aload hx hb dX6_access_135 (lv_at hl 0 rfl) ?_
                  refine lv_aload hx hb dX6_access_137 (lv_at hl 1 rfl) ?_
                  refine xp_getN (host := RX6) S X (ci := 3) hm12 hf12 rfl hin3 1 (by decide) (by decide +kernel) rfl dX6_access_139 ?_
                  obtain ⟨rv, hrv⟩ := rx_rows hR ho hex
                  obtain ⟨gs, hgs⟩ := rx_stps hR ho1
                  obtain ⟨gc6, hm6, hf6, he6⟩ := rx6 hR ho1
                  refine hx_Vi (rest := []) S X (c_X5_convertTo l G L f (ad 13 o 0 0) (ad 4 (oC σ o) 0 0) (ad 14 o 0 0) (ad 6 (oC σ o) 0 0) (oV σ o) (fV σ (topF σ th)) (nI (oF σ o)) g14 gc6 (fun v => ad 15 o v 0) (fun v => ad 7 (oC σ o) v 0) (fun v => ad 8 (oC σ o) v 0) rv (fun v => stp σ (oC σ o) v) gs (fun v n => ad 9 (oC σ o) v n) (fun v n => σ 1 (stI (oC σ o) v n)) (fun v n => σ 1 (stI (oC σ o) v n + 1)) (fun v n => σ 1 (stI (oC σ o) v n + 2)) _ _ _ _ hm13 hf13 hm14 hf14 hmo4 hfo4 hm6 hf6 (by omega) (by omega) he14 (fun v hv => (hR.1 15 o v 0 ⟨⟨ho, hex⟩, hv, rfl⟩).1) hrv (fun i j hi hj e => (hR.2 15 o i 0 15 o j 0 ⟨⟨ho, hex⟩, hi, rfl⟩ ⟨⟨ho, hex⟩, hj, rfl⟩ e).2.2.1) he6 (fun v hv => (rx7 hR ho1 hv).1) (fun v hv => (rx7 hR ho1 hv).2) (fun v hv => ((hI.2.2.1 _ ho1).2.2 v hv).1.2) (fun v hv => (hR.1 8 (oC σ o) v 0 ⟨ho1, hv, rfl⟩).1) (fun v hv => (hgs v hv).1) (fun v hv => (hgs v hv).2) (fun v hv k hk => (rx9 hR ho1 hv hk).1) (fun v hv k hk => (rx9 hR ho1 hv hk).2) (fun v hv => ((hI.2.2.1 _ ho1).2.2 v hv).2)) gX6_access_X5_convertTo rfl (n := 1) (by decide +kernel) rfl ⟨(Nat.le_of_ble_eq_true rfl), (Nat.le_of_ble_eq_true rfl)⟩ (xp_recv (ci := 5) X rfl hm13 hf13) hl.1 rfl (Nat.le_of_ble_eq_true rfl) dX6_access_142 ⟨(Nat.le_of_ble_eq_true rfl), (Nat.le_of_ble_eq_true rfl)⟩ (fun r wd1 H locs hp X => ?_)
                  obtain ⟨hr142, f2, rfl, hR2⟩ := conv_post hI hR ho hex (by omega) (by omega) hrv rfl hp
                  by_cases hcv : (M_convert σ o (fV σ (topF σ th))).1 = true
                  · skip
                    refine hx_ei (hr142.1 hcv) ?_
                    refine lv_if_ne (tgt := 151) hx hb dX6_access_145 (by decide) (fun _ => ?_) (fun c9 => absurd c9 (by decide))
                    have hIu := (iv_convert ⟨hI, hFr⟩ ho hex (tg := fV σ (topF σ th)) (by omega) (by rw [c61]; exact j4)).1
                    exact tail _ f2 hIu hR2 (fun k a b => by funext j; exact M_convert_k a b j) (by simp [M_access, M_acc, wif_t, wif_f, hT', hcth, hK, hO', hco, e61, hF', hcf, e100, e116, e129, hcv]) _ _ _ X (lv_sub hl [3, 4, 5, 6, 2, 1, 0] rfl)
                  · skip
                    refine hx_ei (hr142.2 hcv) ?_
                    refine lv_if_ne (tgt := 151) hx hb dX6_access_145 (by decide) (fun c9 => absurd (by decide) c9) (fun _ => ?_)
                    refine lv_ldc (v := -2000014) hx hb hown (hts (Cond.constant RX6 191 (-2000014)) (by decide +kernel)) dX6_access_148 ?_
                    have hM : M_access σ (nI th) (nI o) (nI fd) = (-2000014, (M_convert σ o (fV σ (topF σ th))).2) := by simp [M_access, M_acc, wif_t, wif_f, hT', hcth, hK, hO', hco, e61, hF', hcf, e100, e116, e129, hcv]
                    exact hx_iret S X hr hlk (Nat.le_of_ble_eq_true rfl) (Nat.le_of_ble_eq_true rfl) ⟨by rw [rd_err hM (by decide)], by rw [rd_err hM (by decide)]; exact ⟨L, f2, ad, rfl, hR2, rfl⟩⟩ dX6_access_150
                · skip
                  have e129 : ∃ j, j < 32 ∧ helP σ (nI o) (nI (fV σ (topF σ th))) j := (spS_hel hI (nI o) (by omega)).mp (Int32.not_le.mp c129)
                  refine lv_ldc (v := -2000013) hx hb hown (hts (Cond.constant RX6 190 (-2000013)) (by decide +kernel)) dX6_access_132 ?_
                  have hM : M_access σ (nI th) (nI o) (nI fd) = (-2000013, σ) := by simp [M_access, M_acc, wif_t, wif_f, hT', hcth, hK, hO', hco, e61, hF', hcf, e100, e116, e129]
                  exact hx_iret S X hr hlk (Nat.le_of_ble_eq_true rfl) (Nat.le_of_ble_eq_true rfl) ⟨by rw [rd_err hM (by decide)], by rw [rd_err hM (by decide)]; exact ⟨L, f, ad, rfl, hR, rfl⟩⟩ dX6_access_134
            · skip
              have c100 := (not_congr (nI_leI (a := oV σ o) (b := fV σ (topF σ th)) (by omega) (by omega))).mp c100
              have e100 : fV σ (topF σ th) < oV σ o := by omega
              refine lv_ldc (v := -2000012) hx hb hown (hts (Cond.constant RX6 189 (-2000012)) (by decide +kernel)) dX6_access_103 ?_
              have hM : M_access σ (nI th) (nI o) (nI fd) = (-2000012, σ) := by simp [M_access, M_acc, wif_t, wif_f, hT', hcth, hK, hO', hco, e61, hF', hcf, e100]
              exact hx_iret S X hr hlk (Nat.le_of_ble_eq_true rfl) (Nat.le_of_ble_eq_true rfl) ⟨by rw [rd_err hM (by decide)], by rw [rd_err hM (by decide)]; exact ⟨L, f, ad, rfl, hR, rfl⟩⟩ dX6_access_105
          · skip
            refine hx_ei (hr81.2 hF) ?_
            refine lv_if_ne (tgt := 90) hx hb dX6_access_84 (by decide) (fun c9 => absurd (by decide) c9) (fun _ => ?_)
            refine lv_ldc (v := -2000005) hx hb hown (hts (Cond.constant RX6 81 (-2000005)) (by decide +kernel)) dX6_access_87 ?_
            have hM : M_access σ (nI th) (nI o) field = (-2000005, σ) := by simp [M_access, M_acc, wif_t, wif_f, hT', hcth, hK, hO', hco, e61, hF]
            exact hx_iret S X hr hlk (Nat.le_of_ble_eq_true rfl) (Nat.le_of_ble_eq_true rfl) ⟨by rw [rd_err hM (by decide)], by rw [rd_err hM (by decide)]; exact ⟨L, f, ad, rfl, hR, rfl⟩⟩ dX6_access_89
        · skip
          have c61 := (not_congr (nI_eq (a := oC σ o) (b := fC σ (topF σ th)) (by omega) (by omega))).mp c61
          have e61 : ¬ fC σ (topF σ th) = oC σ o := fun q => c61 q.symm
          refine lv_ldc (v := -2000011) hx hb hown (hts (Cond.constant RX6 188 (-2000011)) (by decide +kernel)) dX6_access_64 ?_
          have hM : M_access σ (nI th) (nI o) field = (-2000011, σ) := by simp [M_access, M_acc, wif_t, wif_f, hT', hcth, hK, hO', hco, e61]
          exact hx_iret S X hr hlk (Nat.le_of_ble_eq_true rfl) (Nat.le_of_ble_eq_true rfl) ⟨by rw [rd_err hM (by decide)], by rw [rd_err hM (by decide)]; exact ⟨L, f, ad, rfl, hR, rfl⟩⟩ dX6_access_66
      · skip
        refine hx_eq (show r = none from hs32 hO) ?_
        refine lv_astoreN (lv' := [(6, .null), (5, .ref (ad 12 th (dN σ th - 1) 0)), (4, .ref (ad 10 th 0 0)), (0, .ref (ad 0 0 0 0)), (1, .int (nI (th))), (2, .int (object)), (3, .int (field))]) hx hb dX6_access_35 hl (by decide) rfl (fun ls hl => ?_)
        refine lv_aloadN hx hb dX6_access_37 (lv_at hl 0 rfl) ?_
        refine lv_ifnonnullN hx hb dX6_access_39 ?_
        refine lv_ldc (v := -2000004) hx hb hown (hts (Cond.constant RX6 156 (-2000004)) (by decide +kernel)) dX6_access_42 ?_
        have hM : M_access σ (nI th) object field = (-2000004, σ) := by simp [M_access, M_acc, wif_t, wif_f, hT', hcth, hK, hO]
        exact hx_iret S X hr hlk (Nat.le_of_ble_eq_true rfl) (Nat.le_of_ble_eq_true rfl) ⟨by rw [rd_err hM (by decide)], by rw [rd_err hM (by decide)]; exact ⟨L, f, ad, rfl, hR, rfl⟩⟩ dX6_access_44
    · skip
      have hK0 : dN σ th = 0 := Classical.not_not.mp hK
      refine hx_eq (show r = none from hs17 hK0) ?_
      refine lv_astoreN (lv' := [(5, .null), (4, .ref (ad 10 th 0 0)), (0, .ref (ad 0 0 0 0)), (1, .int (nI (th))), (2, .int (object)), (3, .int (field))]) hx hb dX6_access_20 hl (by decide) rfl (fun ls hl => ?_)
      refine lv_aloadN hx hb dX6_access_22 (lv_at hl 0 rfl) ?_
      refine lv_ifnonnullN hx hb dX6_access_24 ?_
      refine lv_ldc (v := -2000006) hx hb hown (hts (Cond.constant RX6 119 (-2000006)) (by decide +kernel)) dX6_access_27 ?_
      have hM : M_access σ (nI th) object field = (-2000006, σ) := by simp [M_access, M_acc, wif_t, wif_f, hT', hcth, hK0]
      exact hx_iret S X hr hlk (Nat.le_of_ble_eq_true rfl) (Nat.le_of_ble_eq_true rfl) ⟨by rw [rd_err hM (by decide)], by rw [rd_err hM (by decide)]; exact ⟨L, f, ad, rfl, hR, rfl⟩⟩ dX6_access_29
  · skip
    refine hx_eq (show r = none from hs2 hT) ?_
    refine lv_astoreN (lv' := [(4, .null), (0, .ref (ad 0 0 0 0)), (1, .int (thread)), (2, .int (object)), (3, .int (field))]) hx hb dX6_access_5 hl (by decide) rfl (fun ls hl => ?_)
    refine lv_aloadN hx hb dX6_access_7 (lv_at hl 0 rfl) ?_
    refine lv_ifnonnullN hx hb dX6_access_9 ?_
    refine lv_ldc (v := -2000003) hx hb hown (hts (Cond.constant RX6 104 (-2000003)) (by decide +kernel)) dX6_access_12 ?_
    have hM : M_access σ thread object field = (-2000003, σ) := by simp [M_access, M_acc, wif_t, wif_f, hT]
    exact hx_iret S X hr hlk (Nat.le_of_ble_eq_true rfl) (Nat.le_of_ble_eq_true rfl) ⟨by rw [rd_err hM (by decide)], by rw [rd_err hM (by decide)]; exact ⟨L, f, ad, rfl, hR, rfl⟩⟩ dX6_access_14

set_option maxRecDepth 100000 in
set_option maxHeartbeats 4000000 in
theorem c_X6_read (l : Launch) (G : hG) (L : List Nat) (f : Nat → va_E) (ad : xAd) (σ : Sg) (thread object field : Int32) (hI : Inv σ) (hR : RX G L f ad σ) (hFr : Fr σ) : hMi l G yX6_read wsX6_read ({ frames := 6, cells := 0, slots := 0, locals := 135 } : Room) (va_pl L f) [.ref (ad 0 0 0 0), .int (thread), .int (object), .int (field)] (fun r w => r = (M_read σ thread object field).1 ∧ XPo G (ad 0 0 0 0) (M_read σ thread object field).2 w) := by
  refine hMi.of (cc := cX6_read) (maxL := 4) (some .int) RX6 rfl (by decide +kernel) rfl (Nat.le_of_ble_eq_true rfl) ?_
  intro p e s m args below meth c S hr hlk X ls hl
  have hx := S.1
  have hb := S.2.1
  have hown := S.2.2.2.1
  have hts := S.2.2.2.2
  have hl : lv_has ls 4 [(0, .ref (ad 0 0 0 0)), (1, .int (thread)), (2, .int (object)), (3, .int (field))] := hl
  have hin0 : ∀ w ∈ wsX00, w ∈ wsX6_read := by decide +kernel
  have hin1 : ∀ w ∈ wsX10, w ∈ wsX6_read := by decide +kernel
  have hin2 : ∀ w ∈ wsX20, w ∈ wsX6_read := by decide +kernel
  have hin3 : ∀ w ∈ wsX30, w ∈ wsX6_read := by decide +kernel
  have hin4 : ∀ w ∈ wsX40, w ∈ wsX6_read := by decide +kernel
  have hin5 : ∀ w ∈ wsX50, w ∈ wsX6_read := by decide +kernel
  have hin6 : ∀ w ∈ wsX60, w ∈ wsX6_read := by decide +kernel
  have hC6 : nC σ ≤ 6 := hI.1.2
  have hO24 : nO σ ≤ 24 := hI.2.1.2
  obtain ⟨m0, f0⟩ := rx0 hR
  obtain ⟨g1, m1, f1, e1⟩ := rx1 hR
  obtain ⟨g2, m2, f2, e2⟩ := rx2 hR
  obtain ⟨g3, m3, f3, e3⟩ := rx3 hR
  refine lv_aload_n hx hb dX6_read_0 rfl (lv_at hl 0 rfl) ?_
  refine lv_iload_n hx hb dX6_read_1 rfl (lv_at hl 1 rfl) ?_
  refine lv_iload_n hx hb dX6_read_2 rfl (lv_at hl 2 rfl) ?_
  refine lv_iload_n hx hb dX6_read_3 rfl (lv_at hl 3 rfl) ?_
  refine hx_Vi (rest := []) S X (c_X6_access l G L f ad σ (thread) (object) (field) hI hR hFr) gX6_read_X6_access rfl (n := 3) (by decide +kernel) rfl ⟨(Nat.le_of_ble_eq_true rfl), (Nat.le_of_ble_eq_true rfl)⟩ (xp_recv (ci := 6) X rfl m0 f0) hl.1 rfl (Nat.le_of_ble_eq_true rfl) dX6_read_4 ⟨(Nat.le_of_ble_eq_true rfl), (Nat.le_of_ble_eq_true rfl)⟩ (fun r wd1 H locs hp X => ?_)
  exact hx_iret S X hr hlk (Nat.le_of_ble_eq_true rfl) (Nat.le_of_ble_eq_true rfl) hp dX6_read_7
