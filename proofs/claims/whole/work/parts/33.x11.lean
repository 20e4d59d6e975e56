section XD11
variable {G : hG} {L : List Nat} {f : Nat → va_E} {ad : xAd} {σ : Sg}
/-- object o moves in its version and values only, at the system -/
theorem rx_obj8 (hI : Inv σ) (hR : RX G L f ad σ) {f2 : Nat → va_E} {σ2 : Sg} {o : Nat} (ho : o < nO σ) (hx : σ 6 o = 1) (hk : ∀ k, k ≠ 8 → k ≠ 10 → σ2 k = σ k) (h8 : ∀ u, u ≠ o → σ2 8 u = σ 8 u) (h10 : ∀ u v k, u ≠ o → v < 8 → k < 8 → σ2 10 (cel u v k) = σ 10 (cel u v k))
    (hf : ∀ a b c d, XL σ a b c d → ¬ (b = o ∧ 13 ≤ a) → f2 (ad a b c d) = f (ad a b c d)) (c13 : XC G ad σ2 13 o 0 0 (f2 (ad 13 o 0 0))) (c14 : f2 (ad 14 o 0 0) = f (ad 14 o 0 0)) (c15 : ∀ v, v < 8 → XC G ad σ2 15 o v 0 (f2 (ad 15 o v 0))) : RX G L f2 ad σ2 := by
  have k0 := hk 0 (by decide) (by decide)
  have k6 := hk 6 (by decide) (by decide)
  have eO : nO σ2 = nO σ := by unfold nO; rw [k0]
  have eC : nC σ2 = nC σ := by unfold nC; rw [k0]
  refine RX_obj (o := o) hI hR (fun k q1 q2 => hk k (by omega) (by omega)) (by rw [k0]) (fun x h => h) (fun a b c d h => rfl) (fun a b c d h _ _ hn => hf a b c d h hn) (fun u hu q1 q2 => ⟨eO ▸ q1, by rw [← k6]; exact q2⟩) (fun u hu => ⟨by rw [hk 7 (by decide) (by decide)], h8 u hu, by rw [hk 9 (by decide) (by decide)]⟩) h10 (fun n => absurd ⟨ho, hx⟩ n) (fun n => absurd ⟨ho, hx⟩ n) ?_ ?_ (fun _ _ => ⟨c13, ?_, c15⟩)
  · rw [hf 0 0 0 0 ⟨rfl, rfl, rfl⟩ (by omega), (rx0 hR).2]
    show _ = _
    rw [eC, eO]
  · rw [hf 3 0 0 0 ⟨rfl, rfl, rfl⟩ (by omega)]
    obtain ⟨g, _, q1, q2⟩ := rx3 hR
    exact ⟨g, q1, fun u hu => by rw [k6]; exact q2 u (eO ▸ hu)⟩
  · rw [c14]
    obtain ⟨g, _, q1, q2⟩ := rx14 hR ho hx
    exact ⟨g, q1, q2⟩
theorem rx_put (hI : Inv σ) (hR : RX G L f ad σ) {o fd : Nat} (ho : o < nO σ) (hx : σ 6 o = 1) (hfd : fd < 8) {gv : Nat → Int32} (hgv : f (ad 15 o (oV σ o) 0) = hAI G 8 gv) (he : ∀ k, k < 8 → gv k = σ 10 (cel o (oV σ o) k)) (x : Int32) :
    RX G L (va_up f (ad 15 o (oV σ o) 0) (hAI G 8 (upd gv fd x))) ad (mS σ 10 (cel o (oV σ o) fd) x) := by
  obtain ⟨⟨o1, o2⟩, ⟨o3, o4⟩, ⟨o5, o6⟩, o7⟩ := (hI.2.2.2.2.2 o ho).2 hx
  have hk8 := (hI.2.2.1 _ o2).1.2.2
  have l15 : XL σ 15 o (oV σ o) 0 := ⟨⟨ho, hx⟩, by omega, rfl⟩
  have hk : ∀ k, k ≠ 10 → mS σ 10 (cel o (oV σ o) fd) x k = σ k := fun k n10 => mS_k n10
  have hO : ∀ a b c d, XL σ a b c d → ¬ (a = 15 ∧ b = o ∧ c = oV σ o ∧ d = 0) → va_up f (ad 15 o (oV σ o) 0) (hAI G 8 (upd gv fd x)) (ad a b c d) = f (ad a b c d) := fun a b c d h n => va_up_n _ _ (rx_ne hR h l15 n)
  refine rx_obj8 hI hR ho hx (fun k _ h => hk k h) (fun u _ => by rw [hk 8 (by decide)]) (fun u v k hu hv hk3 => by rw [mk1, if_neg (by unfold cel; omega)]) (fun a b c d h n => hO a b c d h (by omega)) ?_ (hO _ _ _ _ ⟨⟨ho, hx⟩, rfl, rfl⟩ (by omega)) (fun v hv => ?_)
  · rw [hO 13 o 0 0 ⟨⟨ho, hx⟩, rfl, rfl⟩ (by omega), (rx13 hR ho hx).2]
    show _ = _
    rw [show oC (mS σ 10 (cel o (oV σ o) fd) x) o = oC σ o from congrArg cN (congrFun (hk 7 (by decide)) o), show oV (mS σ 10 (cel o (oV σ o) fd) x) o = oV σ o from congrArg cN (congrFun (hk 8 (by decide)) o), show oF (mS σ 10 (cel o (oV σ o) fd) x) o = oF σ o from congrArg cN (congrFun (hk 9 (by decide)) o)]
  · have e8 : oV (mS σ 10 (cel o (oV σ o) fd) x) o = oV σ o := by show cN _ = _; rw [hk 8 (by decide)]; rfl
    have e9 : oF (mS σ 10 (cel o (oV σ o) fd) x) o = oF σ o := by unfold oF; rw [hk 9 (by decide)]
    by_cases e : v = oV σ o
    · rw [e, va_up_s]
      refine ⟨_, rfl, fun _ _ k hk3 => ?_⟩
      rw [m10, upd, he k hk3]
    · rw [hO 15 o v 0 ⟨⟨ho, hx⟩, hv, rfl⟩ (by omega)]
      obtain ⟨g, _, q1, q2⟩ := rx15 hR ho hx hv
      refine ⟨g, q1, fun r1 r2 k hk3 => ?_⟩
      rw [e9] at r1
      rw [e8] at r2
      rw [mk1, if_neg (by unfold cel; omega)]
      exact q2 r1 r2 k hk3
end XD11
theorem acc_bad {σ : Sg} {a b c : Int32} (h : ¬ (M_access σ a b c).1 = 0) : ¬ isVal (M_access σ a b c).1 := by
  have W : ∀ {P : Prop} {x y : Int32 × Sg}, (x.1 = 0 ∨ ¬ isVal x.1) → (y.1 = 0 ∨ ¬ isVal y.1) → ((wif P x y).1 = 0 ∨ ¬ isVal (wif P x y).1) := fun {P x y} ha hb => by
    by_cases h : P
    · rw [wif_t h]; exact ha
    · rw [wif_f h]; exact hb
  have B : ∀ x : Int32, x.toInt < -1000000 → ∀ s : Sg, ((x, s) : Int32 × Sg).1 = 0 ∨ ¬ isVal ((x, s) : Int32 × Sg).1 := fun x hx s => Or.inr (by rw [isVal_i]; show ¬ (_ ≤ x.toInt ∧ x.toInt ≤ _); omega)
  have K : (M_access σ a b c).1 = 0 ∨ ¬ isVal (M_access σ a b c).1 := by
    rw [M_access]
    refine W (W (B _ (by decide) _) (W ?_ (B _ (by decide) _))) (B _ (by decide) _)
    rw [M_acc]
    exact W (W (W (B _ (by decide) _) (W (W (B _ (by decide) _) (W (Or.inl rfl) (B _ (by decide) _))) (Or.inl rfl))) (B _ (by decide) _)) (B _ (by decide) _)
  exact K.resolve_left h
theorem rd_bad {σ : Sg} {a b c : Int32} (h : ¬ (M_access σ a b c).1 = 0) : M_read σ a b c = M_access σ a b c := by rw [M_read, wif_f h]
theorem wr_bad {σ : Sg} {a b c v : Int32} (hv : isVal v) (h : ¬ (M_access σ a b c).1 = 0) : M_write σ a b c v = M_access σ a b c := by rw [M_write, wif_t hv, wif_f h]
theorem rd_good {σ : Sg} {th o fd : Nat} (ho : o < 24) (hf : fd < 8) (h : (M_access σ (nI th) (nI o) (nI fd)).1 = 0) : M_read σ (nI th) (nI o) (nI fd) = ((M_access σ (nI th) (nI o) (nI fd)).2 10 (cel o (oV (M_access σ (nI th) (nI o) (nI fd)).2 o) fd), (M_access σ (nI th) (nI o) (nI fd)).2) := by
  rw [M_read, wif_t h, show cN (nI o) = o from nI_clamp (by omega), show cN (nI fd) = fd from nI_clamp (by omega)]
theorem wr_good {σ : Sg} {th o fd : Nat} {v : Int32} (hv : isVal v) (ho : o < 24) (hf : fd < 8) (h : (M_access σ (nI th) (nI o) (nI fd)).1 = 0) : M_write σ (nI th) (nI o) (nI fd) v = ((M_access σ (nI th) (nI o) (nI fd)).2 10 (cel o (oV (M_access σ (nI th) (nI o) (nI fd)).2 o) fd), mS (M_access σ (nI th) (nI o) (nI fd)).2 10 (cel o (oV (M_access σ (nI th) (nI o) (nI fd)).2 o) fd) v) := by
  rw [M_write, wif_t hv, wif_t h, show cN (nI o) = o from nI_clamp (by omega), show cN (nI fd) = fd from nI_clamp (by omega)]
set_option maxRecDepth 100000 in
set_option maxHeartbeats 4000000 in
theorem c_X6_write (l : Launch) (G : hG) (L : List Nat) (f : Nat → va_E) (ad : xAd) (σ : Sg) (thread object field value : Int32) (hI : Inv σ) (hR : RX G L f ad σ) (hFr : Fr σ) : hMi l G yX6_write wsX6_write ({ frames := 6, cells := 0, slots := 0, locals := 135 } : Room) (va_pl L f) [.ref (ad 0 0 0 0), .int (thread), .int (object), .int (field), .int (value)] (fun r w => r = (M_write σ thread object field value).1 ∧ XPo G (ad 0 0 0 0) (M_write σ thread object field value).2 w) := by
  refine hMi.of (cc := cX6_write) (maxL := 7) (some .int) RX6 rfl (by decide +kernel) rfl (Nat.le_of_ble_eq_true rfl) ?_
  intro p e s m args below meth c S hr hlk X ls hl
  have hx := S.1
  have hb := S.2.1
  have hown := S.2.2.2.1
  have hts := S.2.2.2.2
  have hl : lv_has ls 7 [(0, .ref (ad 0 0 0 0)), (1, .int (thread)), (2, .int (object)), (3, .int (field)), (4, .int (value))] := hl
  have hin0 : ∀ w ∈ wsX00, w ∈ wsX6_write := by decide +kernel
  have hin1 : ∀ w ∈ wsX10, w ∈ wsX6_write := by decide +kernel
  have hin2 : ∀ w ∈ wsX20, w ∈ wsX6_write := by decide +kernel
  have hin3 : ∀ w ∈ wsX30, w ∈ wsX6_write := by decide +kernel
  have hin4 : ∀ w ∈ wsX40, w ∈ wsX6_write := by decide +kernel
  have hin5 : ∀ w ∈ wsX50, w ∈ wsX6_write := by decide +kernel
  have hin6 : ∀ w ∈ wsX60, w ∈ wsX6_write := by decide +kernel
  have hC6 : nC σ ≤ 6 := hI.1.2
  have hO24 : nO σ ≤ 24 := hI.2.1.2
  obtain ⟨m0, f0⟩ := rx0 hR
  obtain ⟨g1, m1, f1, e1⟩ := rx1 hR
  obtain ⟨g2, m2, f2, e2⟩ := rx2 hR
  obtain ⟨g3, m3, f3, e3⟩ := rx3 hR
  refine lv_iload hx hb dX6_write_0 (lv_at hl 4 rfl) ?_
  refine lv_i2l (v := (value : Int32).toInt64) hx hb dX6_write_2 rfl ?_
  refine hx_Si (rest := []) S X (c_X6_isValue l G _ ((value : Int32).toInt64)) gX6_write_X6_isValue rfl (n := 1) (by decide +kernel) rfl ⟨(Nat.le_of_ble_eq_true rfl), (Nat.le_of_ble_eq_true rfl)⟩ hl.1 rfl (Nat.le_of_ble_eq_true rfl) dX6_write_3 ⟨(Nat.le_of_ble_eq_true rfl), (Nat.le_of_ble_eq_true rfl)⟩ (fun r wd1 H locs hp X => ?_)
  obtain ⟨hr3, rfl⟩ := hp
  have hr3 := isB_iff (isVL_iff (value)) hr3
  by_cases hval : isVal (value)
  · skip
    refine hx_ei (hr3.1 hval) ?_
    refine lv_if_ne (tgt := 12) hx hb dX6_write_6 (by decide) (fun _ => ?_) (fun c9 => absurd c9 (by decide))
    refine lv_aload_n hx hb dX6_write_12 rfl (lv_at hl 0 rfl) ?_
    refine lv_iload_n hx hb dX6_write_13 rfl (lv_at hl 1 rfl) ?_
    refine lv_iload_n hx hb dX6_write_14 rfl (lv_at hl 2 rfl) ?_
    refine lv_iload_n hx hb dX6_write_15 rfl (lv_at hl 3 rfl) ?_
    refine hx_Vi (rest := []) S X (c_X6_access l G L f ad σ (thread) (object) (field) hI hR hFr) gX6_write_X6_access rfl (n := 3) (by decide +kernel) rfl ⟨(Nat.le_of_ble_eq_true rfl), (Nat.le_of_ble_eq_true rfl)⟩ (xp_recv (ci := 6) X rfl m0 f0) hl.1 rfl (Nat.le_of_ble_eq_true rfl) dX6_write_16 ⟨(Nat.le_of_ble_eq_true rfl), (Nat.le_of_ble_eq_true rfl)⟩ (fun r wd1 H locs hp X => ?_)
    obtain ⟨rfl, L2, f2, ad2, rfl, hR2, h02⟩ := hp
    by_cases hA : (M_access σ thread object field).1 = 0
    · skip
      obtain ⟨th, o, fd, ⟨hth, rfl⟩, ⟨ho, hex, rfl⟩, ⟨hfd, rfl⟩, -, -, -, -, -⟩ := acc_ok hI hA
      have hrd : M_read σ (nI th) (nI o) (nI fd) = _ := rd_good (by omega) hfd hA
      have hIu := (iv_access ⟨hI, hFr⟩ (nI th) (nI o) (nI fd)).1
      rw [hrd] at hR2
      have hR2 : RX G L2 f2 ad2 (M_access σ (nI th) (nI o) (nI fd)).2 := hR2
      have hxu : (M_access σ (nI th) (nI o) (nI fd)).2 6 o = 1 := by rw [acc_k (by decide) (by decide) (by decide)]; exact hex
      have hou : o < nO (M_access σ (nI th) (nI o) (nI fd)).2 := by unfold nO at ho ⊢; rw [acc_k (by decide) (by decide) (by decide)]; exact ho
      have hwr := wr_good hval (by omega) hfd hA
      generalize (M_access σ (nI th) (nI o) (nI fd)).2 = u at *
      have m02 : ad 0 0 0 0 ∈ L2 := h02 ▸ (rx0 hR2).1
      have f02 : f2 (ad 0 0 0 0) = _ := h02 ▸ (rx0 hR2).2
      obtain ⟨⟨u0, u1⟩, ⟨u2, u3⟩, ⟨u4, u5⟩, u6⟩ := (hIu.2.2.2.2.2 o hou).2 hxu
      have uk8 : cnt u (oC u o) ≤ 8 := (hIu.2.2.1 _ u1).1.2.2
      obtain ⟨km13, kf13⟩ := rx13 hR2 hou hxu
      obtain ⟨g14u, km14, kf14, k14⟩ := rx14 hR2 hou hxu
      obtain ⟨gv, km15, kf15, k15⟩ := rx15 hR2 hou hxu (v := oV u o) (by omega)
      have hpv : isVal (u 10 (cel o (oV u o) fd)) := u6 (oV u o) fd u5 (Nat.le_refl _) hfd
      refine hx_ei (show _ = u 10 (cel o (oV u o) fd) from by rw [hrd]) ?_
      refine lv_istore (lv' := [(5, .int (u 10 (cel o (oV u o) fd))), (0, .ref (ad 0 0 0 0)), (1, .int (nI (th))), (2, .int (nI (o))), (3, .int (nI (fd))), (4, .int (value))]) hx hb dX6_write_19 hl (by decide) rfl (fun ls hl => ?_)
      refine lv_aload_n hx hb dX6_write_21 rfl (lv_at hl 1 rfl) ?_
      refine lv_iload_n hx hb dX6_write_22 rfl (lv_at hl 3 rfl) ?_
      refine hx_Vq (rest := []) S X ((h02 ▸ c_X6_existingObject l G L2 f2 ad2 u (nI o) hIu hR2)) gX6_write_X6_existingObject rfl (n := 1) (by decide +kernel) rfl ⟨(Nat.le_of_ble_eq_true rfl), (Nat.le_of_ble_eq_true rfl)⟩ (xp_recv (ci := 6) X rfl m02 f02) hl.1 rfl (Nat.le_of_ble_eq_true rfl) dX6_write_23 ⟨(Nat.le_of_ble_eq_true rfl), (Nat.le_of_ble_eq_true rfl)⟩ (fun r wd1 H locs hp X => ?_)
      obtain ⟨hr23, hs23, rfl⟩ := hp
      refine hx_eq (show r = some (ad2 13 o 0 0) from hr23 o hou hxu rfl) ?_
      refine lv_astore (lv' := [(6, .ref (ad2 13 o 0 0)), (5, .int (u 10 (cel o (oV u o) fd))), (0, .ref (ad 0 0 0 0)), (1, .int (nI (th))), (2, .int (nI (o))), (3, .int (nI (fd))), (4, .int (value))]) hx hb dX6_write_26 hl (by decide) rfl (fun ls hl => ?_)
      refine lv_iload hx hb dX6_write_28 (lv_at hl 1 rfl) ?_
      refine lv_i2l (v := (u 10 (cel o (oV u o) fd) : Int32).toInt64) hx hb dX6_write_30 rfl ?_
      refine hx_Si (rest := []) S X (c_X6_isValue l G _ ((u 10 (cel o (oV u o) fd) : Int32).toInt64)) gX6_write_X6_isValue rfl (n := 1) (by decide +kernel) rfl ⟨(Nat.le_of_ble_eq_true rfl), (Nat.le_of_ble_eq_true rfl)⟩ hl.1 rfl (Nat.le_of_ble_eq_true rfl) dX6_write_31 ⟨(Nat.le_of_ble_eq_true rfl), (Nat.le_of_ble_eq_true rfl)⟩ (fun r wd1 H locs hp X => ?_)
      obtain ⟨hr31, rfl⟩ := hp
      have hr31 := isB_iff (isVL_iff (u 10 (cel o (oV u o) fd))) hr31
      refine hx_ei (hr31.1 hpv) ?_
      refine lv_if_eq (tgt := 42) hx hb dX6_write_34 (by decide) (fun c9 => absurd c9 (by decide)) (fun _ => ?_)
      refine lv_aload hx hb dX6_write_37 (lv_at hl 0 rfl) ?_
      refine lv_ifnonnull (tgt := 45) hx hb dX6_write_39 (by decide) ?_
      refine lv_aload hx hb dX6_write_45 (lv_at hl 0 rfl) ?_
      refine lv_iload_n hx hb dX6_write_47 rfl (lv_at hl 5 rfl) ?_
      refine lv_iload hx hb dX6_write_48 (lv_at hl 6 rfl) ?_
      refine hx_Vv (rest := []) S X (c_X5_putValue l G L2 f2 (ad2 13 o 0 0) (ad2 4 (oC u o) 0 0) (ad2 14 o 0 0) (ad2 15 o (oV u o) 0) (oV u o) fd (nI (oF u o)) value g14u gv km13 kf13 km14 kf14 km15 kf15 (k14 _ (by omega)) (by omega) (by omega)) gX6_write_X5_putValue rfl (n := 2) (by decide +kernel) rfl ⟨(Nat.le_of_ble_eq_true rfl), (Nat.le_of_ble_eq_true rfl)⟩ (xp_recv (ci := 5) X rfl km13 kf13) hl.1 rfl (Nat.le_of_ble_eq_true rfl) dX6_write_50 ⟨(Nat.le_of_ble_eq_true rfl), (Nat.le_of_ble_eq_true rfl)⟩ (fun wd1 H locs hp X => ?_)
      obtain rfl := hp
      refine lv_iload hx hb dX6_write_53 (lv_at hl 1 rfl) ?_
      have hP := rx_put hIu hR2 hou hxu hfd kf15 (fun k hk => k15 u5 (Nat.le_refl _) k hk) value
      exact hx_iret S X hr hlk (Nat.le_of_ble_eq_true rfl) (Nat.le_of_ble_eq_true rfl) ⟨by rw [hwr], by rw [hwr]; exact ⟨_, _, _, rfl, hP, h02⟩⟩ dX6_write_55
    · skip
      have hIu : Inv (M_read σ thread object field).2 := (iv_read ⟨hI, hFr⟩ thread object field).1
      have hbv : ¬ isVal (M_read σ thread object field).1 := by rw [rd_bad hA]; exact acc_bad hA
      have m02 : ad 0 0 0 0 ∈ L2 := h02 ▸ (rx0 hR2).1
      have f02 : f2 (ad 0 0 0 0) = _ := h02 ▸ (rx0 hR2).2
      refine lv_istore (lv' := [(5, .int ((M_read σ (thread) (object) (field)).1)), (0, .ref (ad 0 0 0 0)), (1, .int (thread)), (2, .int (object)), (3, .int (field)), (4, .int (value))]) hx hb dX6_write_19 hl (by decide) rfl (fun ls hl => ?_)
      refine lv_aload_n hx hb dX6_write_21 rfl (lv_at hl 1 rfl) ?_
      refine lv_iload_n hx hb dX6_write_22 rfl (lv_at hl 3 rfl) ?_
      refine hx_Vq (rest := []) S X ((h02 ▸ c_X6_existingObject l G L2 f2 ad2 (M_read σ thread object field).2 object hIu hR2)) gX6_write_X6_existingObject rfl (n := 1) (by decide +kernel) rfl ⟨(Nat.le_of_ble_eq_true rfl), (Nat.le_of_ble_eq_true rfl)⟩ (xp_recv (ci := 6) X rfl m02 f02) hl.1 rfl (Nat.le_of_ble_eq_true rfl) dX6_write_23 ⟨(Nat.le_of_ble_eq_true rfl), (Nat.le_of_ble_eq_true rfl)⟩ (fun r wd1 H locs hp X => ?_)
      obtain ⟨-, -, rfl⟩ := hp
      rcases r with _ | rr
      · skip
        refine hx_eq (show (none : Option Nat) = none from rfl) ?_
        refine lv_astoreN (lv' := [(6, .null), (5, .int ((M_read σ (thread) (object) (field)).1)), (0, .ref (ad 0 0 0 0)), (1, .int (thread)), (2, .int (object)), (3, .int (field)), (4, .int (value))]) hx hb dX6_write_26 hl (by decide) rfl (fun ls hl => ?_)
        refine lv_iload hx hb dX6_write_28 (lv_at hl 1 rfl) ?_
        refine lv_i2l (v := ((M_read σ (thread) (object) (field)).1 : Int32).toInt64) hx hb dX6_write_30 rfl ?_
        refine hx_Si (rest := []) S X (c_X6_isValue l G _ (((M_read σ (thread) (object) (field)).1 : Int32).toInt64)) gX6_write_X6_isValue rfl (n := 1) (by decide +kernel) rfl ⟨(Nat.le_of_ble_eq_true rfl), (Nat.le_of_ble_eq_true rfl)⟩ hl.1 rfl (Nat.le_of_ble_eq_true rfl) dX6_write_31 ⟨(Nat.le_of_ble_eq_true rfl), (Nat.le_of_ble_eq_true rfl)⟩ (fun r wd1 H locs hp X => ?_)
        obtain ⟨hr31, rfl⟩ := hp
        have hr31 := isB_iff (isVL_iff ((M_read σ (thread) (object) (field)).1)) hr31
        refine hx_ei (hr31.2 hbv) ?_
        refine lv_if_eq (tgt := 42) hx hb dX6_write_34 (by decide) (fun _ => ?_) (fun c9 => absurd (by decide) c9)
        refine lv_iload hx hb dX6_write_42 (lv_at hl 1 rfl) ?_
        have hwr : M_write σ thread object field value = M_read σ thread object field := by rw [wr_bad hval hA, rd_bad hA]
        exact hx_iret S X hr hlk (Nat.le_of_ble_eq_true rfl) (Nat.le_of_ble_eq_true rfl) ⟨by rw [hwr], by rw [hwr]; exact ⟨_, _, _, rfl, hR2, h02⟩⟩ dX6_write_44
      · skip
        refine hx_eq (show some rr = some rr from rfl) ?_
        refine lv_astore (lv' := [(6, .ref (rr)), (5, .int ((M_read σ (thread) (object) (field)).1)), (0, .ref (ad 0 0 0 0)), (1, .int (thread)), (2, .int (object)), (3, .int (field)), (4, .int (value))]) hx hb dX6_write_26 hl (by decide) rfl (fun ls hl => ?_)
        refine lv_iload hx hb dX6_write_28 (lv_at hl 1 rfl) ?_
        refine lv_i2l (v := ((M_read σ (thread) (object) (field)).1 : Int32).toInt64) hx hb dX6_write_30 rfl ?_
        refine hx_Si (rest := []) S X (c_X6_isValue l G _ (((M_read σ (thread) (object) (field)).1 : Int32).toInt64)) gX6_write_X6_isValue rfl (n := 1) (by decide +kernel) rfl ⟨(Nat.le_of_ble_eq_true rfl), (Nat.le_of_ble_eq_true rfl)⟩ hl.1 rfl (Nat.le_of_ble_eq_true rfl) dX6_write_31 ⟨(Nat.le_of_ble_eq_true rfl), (Nat.le_of_ble_eq_true rfl)⟩ (fun r wd1 H locs hp X => ?_)
        obtain ⟨hr31, rfl⟩ := hp
        have hr31 := isB_iff (isVL_iff ((M_read σ (thread) (object) (field)).1)) hr31
        refine hx_ei (hr31.2 hbv) ?_
        refine lv_if_eq (tgt := 42) hx hb dX6_write_34 (by decide) (fun _ => ?_) (fun c9 => absurd (by decide) c9)
        refine lv_iload hx hb dX6_write_42 (lv_at hl 1 rfl) ?_
        have hwr : M_write σ thread object field value = M_read σ thread object field := by rw [wr_bad hval hA, rd_bad hA]
        exact hx_iret S X hr hlk (Nat.le_of_ble_eq_true rfl) (Nat.le_of_ble_eq_true rfl) ⟨by rw [hwr], by rw [hwr]; exact ⟨_, _, _, rfl, hR2, h02⟩⟩ dX6_write_44
  · skip
    refine hx_ei (hr3.2 hval) ?_
    refine lv_if_ne (tgt := 12) hx hb dX6_write_6 (by decide) (fun c9 => absurd (by decide) c9) (fun _ => ?_)
    refine lv_ldc (v := -2000007) hx hb hown (hts (Cond.constant RX6 28 (-2000007)) (by decide +kernel)) dX6_write_9 ?_
    exact hx_iret S X hr hlk (Nat.le_of_ble_eq_true rfl) (Nat.le_of_ble_eq_true rfl) ⟨by simp [M_write, wif_t, wif_f, hval], by simp [M_write, wif_t, wif_f, hval]; exact ⟨L, f, ad, rfl, hR, rfl⟩⟩ dX6_write_11
