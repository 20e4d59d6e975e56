theorem up_up {α : Type} (f : Nat → α) (a : Nat) (x y : α) : va_up (va_up f a x) a y = va_up f a y := by
  funext j
  by_cases h : j = a <;> simp [va_up, h]
set_option maxRecDepth 100000 in
set_option maxHeartbeats 4000000 in
theorem c_X3_init (l : Launch) (G : hG) (L : List Nat) (f : Nat → va_E) (h0 h : Nat) (v0 v1 v2 v4 : Value) (cur : Int32) (m0 : h0 ∈ L) (f0 : f h0 = .inr (3, [.null, .int ((0 : Int32)), .int ((0 : Int32))])) (mh : h ∈ L) (fh : f h = .inr (1, [v0, v1, v2, .int (cur), v4]))  : hMv l G yX3_init wsX3_init ({ frames := 1, cells := 0, slots := 0, locals := 20 } : Room) (va_pl L f) [.ref (h0), .ref (h)] (fun w => w = va_pl L (va_up f h0 (.inr (3, [.ref h, .int cur, .int 0])))) := by
  refine hMv.of (cc := cX3_init) (maxL := 2) none RX3 rfl (by decide +kernel) rfl (Nat.le_of_ble_eq_true rfl) ?_
  intro p e s m args below meth c S hr hlk hin X ls hl
  have hx := S.1
  have hb := S.2.1
  have hown := S.2.2.2.1
  have hts := S.2.2.2.2
  have hl : lv_has ls 2 [(0, .ref (h0)), (1, .ref (h))] := hl
  have hin1 : ∀ w ∈ wsX10, w ∈ wsX3_init := by decide +kernel
  have hin3 : ∀ w ∈ wsX30, w ∈ wsX3_init := by decide +kernel
  refine lv_aload_n hx hb dX3_init_0 rfl (lv_at hl 0 rfl) ?_
  refine W.objInit hx hb hown (hts (Cond.methodLink RX3 1 objectInit) (by decide +kernel)) (hts (Cond.instanceMethod objectInit) (by decide +kernel)) (hts (Cond.code objectInit ⟨#[0xb1]⟩ 1 none) (by decide +kernel)) rfl (by rw [S.2.2.1]; exact hl.1) rfl dX3_init_1 (Nat.le_of_ble_eq_true rfl) (Nat.le_of_ble_eq_true rfl) ?_
  refine W.eq (g2 := F0 m 4 ls []) rfl ?_
  refine lv_aload_n hx hb dX3_init_4 rfl (lv_at hl 0 rfl) ?_
  refine lv_aload_n hx hb dX3_init_5 rfl (lv_at hl 1 rfl) ?_
  refine xp_putF S X (ci := 3) (fs2 := [.ref (h), .int ((0 : Int32)), .int ((0 : Int32))]) tyX3_ok nmX3 m0 f0 rfl hin3 0 (by decide) (by decide +kernel) rfl hin rfl rfl rfl (Nat.le_of_ble_eq_true rfl) rfl dX3_init_6 (fun H locs X => ?_)
  have k1 : (va_up f (h0) (.inr (3, [.ref (h), .int ((0 : Int32)), .int ((0 : Int32))]))) (h) = .inr (1, [v0, v1, v2, .int (cur), v4]) := up_k f0 fh (by simp)
  have k2 : (va_up f (h0) (.inr (3, [.ref (h), .int ((0 : Int32)), .int ((0 : Int32))]))) (h0) = .inr (3, [.ref (h), .int ((0 : Int32)), .int ((0 : Int32))]) := va_up_s _ _ _
  refine lv_aload_n hx hb dX3_init_9 rfl (lv_at hl 0 rfl) ?_
  refine lv_aload_n hx hb dX3_init_10 rfl (lv_at hl 1 rfl) ?_
  refine xp_getN (host := RX6) S X (ci := 1) mh k1 rfl hin1 3 (by decide) (by decide +kernel) rfl dX3_init_11 ?_
  refine xp_putF S X (ci := 3) (fs2 := [.ref (h), .int (cur), .int ((0 : Int32))]) tyX3_ok nmX3 m0 k2 rfl hin3 1 (by decide) (by decide +kernel) rfl hin rfl rfl rfl (Nat.le_of_ble_eq_true rfl) rfl dX3_init_14 (fun H locs X => ?_)
  have k3 : (va_up (va_up f (h0) (.inr (3, [.ref (h), .int ((0 : Int32)), .int ((0 : Int32))]))) (h0) (.inr (3, [.ref (h), .int (cur), .int ((0 : Int32))]))) (h) = .inr (1, [v0, v1, v2, .int (cur), v4]) := up_k k2 k1 (by simp)
  have k4 : (va_up (va_up f (h0) (.inr (3, [.ref (h), .int ((0 : Int32)), .int ((0 : Int32))]))) (h0) (.inr (3, [.ref (h), .int (cur), .int ((0 : Int32))]))) (h0) = .inr (3, [.ref (h), .int (cur), .int ((0 : Int32))]) := va_up_s _ _ _
  exact hx_vret S X hr hlk (Nat.le_of_ble_eq_true rfl) (Nat.le_of_ble_eq_true rfl) (by rw [up_up]) dX3_init_17

set_option maxRecDepth 100000 in
set_option maxHeartbeats 4000000 in
theorem c_X3_pin (l : Launch) (G : hG) (L : List Nat) (f : Nat → va_E) (h0 hi : Nat) (ver pn o : Int32) (m0 : h0 ∈ L) (f0 : f h0 = .inr (3, [.ref (hi), .int (ver), .int (pn)]))  : hMv l G yX3_pin wsX3_pin ({ frames := 0, cells := 0, slots := 0, locals := 0 } : Room) (va_pl L f) [.ref (h0), .int (o)] (fun w => w = va_pl L (va_up f h0 (.inr (3, [.ref hi, .int ver, .int (pn ||| (1 : Int32) <<< (o &&& 31))])))) := by
  refine hMv.of (cc := cX3_pin) (maxL := 2) none RX3 rfl (by decide +kernel) rfl (Nat.le_of_ble_eq_true rfl) ?_
  intro p e s m args below meth c S hr hlk hin X ls hl
  have hx := S.1
  have hb := S.2.1
  have hown := S.2.2.2.1
  have hts := S.2.2.2.2
  have hl : lv_has ls 2 [(0, .ref (h0)), (1, .int (o))] := hl
  have hin3 : ∀ w ∈ wsX30, w ∈ wsX3_pin := by decide +kernel
  refine lv_aload_n hx hb dX3_pin_0 rfl (lv_at hl 0 rfl) ?_
  refine lv_dup hx hb dX3_pin_1 rfl ?_
  refine xp_get S X (ci := 3) m0 f0 rfl hin3 2 (by decide) (by decide +kernel) rfl dX3_pin_2 ?_
  refine lv_iconst (v := 1) hx hb dX3_pin_5 (by decide) ?_
  refine lv_iload_n hx hb dX3_pin_6 rfl (lv_at hl 1 rfl) ?_
  refine lv_ishl hx hb dX3_pin_7 ?_
  refine lv_ior hx hb dX3_pin_8 ?_
  refine xp_put S X (ci := 3) (fs2 := [.ref (hi), .int (ver), .int ((pn) ||| (((1 : Int32)) <<< ((o) &&& 31)))]) tyX3_ok nmX3 m0 f0 rfl hin3 2 (by decide) (by decide +kernel) rfl rfl rfl (Nat.le_of_ble_eq_true rfl) rfl dX3_pin_9 (fun H locs X => ?_)
  have k1 : (va_up f (h0) (.inr (3, [.ref (hi), .int (ver), .int ((pn) ||| (((1 : Int32)) <<< ((o) &&& 31)))]))) (h0) = .inr (3, [.ref (hi), .int (ver), .int ((pn) ||| (((1 : Int32)) <<< ((o) &&& 31)))]) := va_up_s _ _ _
  exact hx_vret S X hr hlk (Nat.le_of_ble_eq_true rfl) (Nat.le_of_ble_eq_true rfl) rfl dX3_pin_12

set_option maxRecDepth 100000 in
set_option maxHeartbeats 4000000 in
theorem c_X3_pins (l : Launch) (G : hG) (L : List Nat) (f : Nat → va_E) (h0 hi : Nat) (ver pn o : Int32) (m0 : h0 ∈ L) (f0 : f h0 = .inr (3, [.ref (hi), .int (ver), .int (pn)]))  : hMi l G yX3_pins wsX3_pins ({ frames := 0, cells := 0, slots := 0, locals := 0 } : Room) (va_pl L f) [.ref (h0), .int (o)] (fun r w => isB r (pinB pn o) ∧ w = va_pl L f) := by
  refine hMi.of (cc := cX3_pins) (maxL := 2) (some .boolean) RX3 rfl (by decide +kernel) rfl (Nat.le_of_ble_eq_true rfl) ?_
  intro p e s m args below meth c S hr hlk X ls hl
  have hx := S.1
  have hb := S.2.1
  have hown := S.2.2.2.1
  have hts := S.2.2.2.2
  have hl : lv_has ls 2 [(0, .ref (h0)), (1, .int (o))] := hl
  have hin3 : ∀ w ∈ wsX30, w ∈ wsX3_pins := by decide +kernel
  refine lv_aload_n hx hb dX3_pins_0 rfl (lv_at hl 0 rfl) ?_
  refine xp_get S X (ci := 3) m0 f0 rfl hin3 2 (by decide) (by decide +kernel) rfl dX3_pins_1 ?_
  refine lv_iload_n hx hb dX3_pins_4 rfl (lv_at hl 1 rfl) ?_
  refine lv_ishr hx hb dX3_pins_5 ?_
  refine lv_iconst (v := 1) hx hb dX3_pins_6 (by decide) ?_
  refine lv_iand hx hb dX3_pins_7 ?_
  refine lv_iconst (v := 1) hx hb dX3_pins_8 (by decide) ?_
  refine lv_icmp_ne (tgt := 16) hx hb dX3_pins_9 (by decide) (fun c9 => ?_) (fun c9 => ?_)
  · skip
    refine lv_iconst (v := 0) hx hb dX3_pins_16 (by decide) ?_
    exact hx_zret S X hr hlk (Nat.le_of_ble_eq_true rfl) (Nat.le_of_ble_eq_true rfl) (by decide) ⟨isB_f c9 rfl, rfl⟩ dX3_pins_17
  · skip
    refine lv_iconst (v := 1) hx hb dX3_pins_12 (by decide) ?_
    refine lv_goto (tgt := 17) hx hb dX3_pins_13 (by decide) ?_
    exact hx_zret S X hr hlk (Nat.le_of_ble_eq_true rfl) (Nat.le_of_ble_eq_true rfl) (by decide) ⟨isB_t c9 rfl, rfl⟩ dX3_pins_17
