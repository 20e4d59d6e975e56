theorem up_up {α : Type} (f : Nat → α) (a : Nat) (x y : α) : va_up (va_up f a x) a y = va_up f a y := by
  funext j
  by_cases h : j = a <;> simp [va_up, h]
def chS (k a b x : Int32) : Int32 := if k = 0 then x ||| (1 : Int32) <<< (a &&& 31) else if k = 2 then (x &&& (((1 : Int32) <<< (a &&& 31)) ^^^ (-1 : Int32))) ||| (1 : Int32) <<< (b &&& 31) else if k = 3 then x else x &&& (((1 : Int32) <<< (a &&& 31)) ^^^ (-1 : Int32))
noncomputable def cnq (p : Nat → Prop) : Nat → Nat
  | 0 => 0
  | n + 1 => cnq p n + wif (p n) 1 0
theorem cnq_t {p : Nat → Prop} {n : Nat} (h : p n) : cnq p (n + 1) = cnq p n + 1 := by simp [cnq, wif_t h]
theorem cnq_f {p : Nat → Prop} {n : Nat} (h : ¬ p n) : cnq p (n + 1) = cnq p n := by simp [cnq, wif_f h]
theorem cnq_le (p : Nat → Prop) (n : Nat) : cnq p n ≤ n := by
  induction n with
  | zero => exact Nat.le_refl _
  | succ n ih =>
    by_cases h : p n
    · rw [cnq_t h]; omega
    · rw [cnq_f h]; omega
noncomputable def mnF (p : Nat → Prop) (v : Nat → Int32) : Nat → Int32
  | 0 => 8
  | n + 1 => wif (p n) (if v n < mnF p v n then v n else mnF p v n) (mnF p v n)
def isVL (p : Int64) : Prop := -1000000 ≤ p ∧ p ≤ 1000000
noncomputable def putX (row : Nat → Int32) (t : Nat) (p : Int64) : Bool × (Nat → Int32) := wif (isVL p) (true, upd row t p.toInt32) (false, row)
noncomputable def stepX (k a b : Int32) (row : Nat → Int32) : Bool × (Nat → Int32) :=
  if k = 0 then putX row (cN a) b.toInt64 else if k = 2 then putX row (cN b) (row (cN a)).toInt64 else if k = 3 then putX row (cN a) ((row (cN a)).toInt64 * b.toInt64) else if k = 4 then putX row (cN b) ((row (cN b)).toInt64 + (row (cN a)).toInt64) else (true, row)
/-- the first n steps, one after the other, until one fails -/
noncomputable def apX (K A B : Nat → Int32) (row : Nat → Int32) : Nat → Bool × (Nat → Int32)
  | 0 => (true, row)
  | n + 1 => if (apX K A B row n).1 = true then stepX (K n) (A n) (B n) (apX K A B row n).2 else apX K A B row n
theorem apX_go {K A B : Nat → Int32} {row : Nat → Int32} {i : Nat} (h : (apX K A B row i).1 = true) : apX K A B row (i + 1) = stepX (K i) (A i) (B i) (apX K A B row i).2 := by rw [apX, if_pos h]
theorem apX_stop {K A B : Nat → Int32} {row : Nat → Int32} {i : Nat} (h : ¬ (apX K A B row i).1 = true) (d : Nat) : apX K A B row (i + d) = apX K A B row i := by
  induction d with
  | zero => rfl
  | succ d ih => rw [← Nat.add_assoc, apX, ih, if_neg h]
theorem i_le64 (a b : Int64) : a ≤ b ↔ a.toInt ≤ b.toInt := Int64.le_iff_toInt_le
theorem i_lt64 (a b : Int64) : a < b ↔ a.toInt < b.toInt := Int64.lt_iff_toInt_lt
theorem lc_lt (x y : Int64) : lg_cmp x y < 0 ↔ x < y := by
  unfold lg_cmp
  by_cases h : x > y
  · rw [if_pos h]
    constructor
    · intro q; exact absurd q (by decide)
    · intro q; rw [i_lt64] at q; have := (i_lt64 y x).mp h; omega
  · rw [if_neg h]
    by_cases h2 : x = y
    · rw [if_pos h2]
      constructor
      · intro q; exact absurd q (by decide)
      · intro q; rw [h2, i_lt64] at q; omega
    · rw [if_neg h2]
      constructor
      · intro _
        rw [i_lt64]
        have h3 : ¬ y < x := h
        rw [i_lt64] at h3
        have h4 : x.toInt ≠ y.toInt := fun e => h2 (Int64.toInt_inj.mp e)
        omega
      · intro _; decide
theorem lc_gt (x y : Int64) : 0 < lg_cmp x y ↔ y < x := by
  unfold lg_cmp
  by_cases h : x > y
  · rw [if_pos h]
    exact ⟨fun _ => h, fun _ => by decide⟩
  · rw [if_neg h]
    constructor
    · intro q
      by_cases h2 : x = y
      · rw [if_pos h2] at q; exact absurd q (by decide)
      · rw [if_neg h2] at q; exact absurd q (by decide)
    · intro q; exact absurd q h
theorem va_up_id {α : Type} {f : Nat → α} {a : Nat} {e : α} (h : f a = e) : va_up f a e = f := by
  funext j
  by_cases q : j = a
  · rw [q, va_up_s, h]
  · rw [va_up_n f e q]
set_option maxRecDepth 100000 in
set_option maxHeartbeats 4000000 in
theorem c_X3_init (l : Launch) (G : hG) (L : List Nat) (f : Nat → va_E) (h0 h : Nat) (v0 v1 v2 v4 : Value) (cur : Int32) (m0 : h0 ∈ L) (f0 : f h0 = .inr (3, [.null, .int ((0 : Int32)), .int ((0 : Int32))])) (mh : h ∈ L) (fh : f h = .inr (1, [v0, v1, v2, .int (cur), v4]))  : hMv l G yX3_init wsX3_init ({ frames := 1, cells := 0, slots := 0, locals := 20 } : Room) (va_pl L f) [.ref (h0), .ref (h)] (fun w => w = va_pl L (va_up f h0 (.inr (3, [.ref h, .int cur, .int 0])))) := by
  refine hMv.of (cc := cX3_init) (maxL := 2) none RX3 rfl (by decide +kernel) rfl (Nat.le_of_ble_eq_true rfl) ?_
  intro p e s m args below meth c S hr hlk hin X ls hl
  have hx := S.1
  have hb := S.2.1
  have hown := S.2.2.2.1
  have hts := S.2.2.2.2
  have hl : lv_has ls 2 [(0, .ref (h0)), (1, .ref (h))] := hl
  have hin1 : ∀ w ∈ wsX10, w ∈ wsX3_init := by decide +kernel
  have hin3 : ∀ w ∈ wsX30, w ∈ wsX3_init := by decide +kernel
  refine lv_aload_n hx hb dX3_init_0 rfl (lv_at hl 0 rfl) ?_
  refine W.objInit hx hb hown (hts (Cond.methodLink RX3 1 objectInit) (by decide +kernel)) (hts (Cond.instanceMethod objectInit) (by decide +kernel)) (hts (Cond.code objectInit ⟨#[0xb1]⟩ 1 none) (by decide +kernel)) rfl (by rw [S.2.2.1]; exact hl.1) rfl dX3_init_1 (Nat.le_of_ble_eq_true rfl) (Nat.le_of_ble_eq_true rfl) ?_
  refine W.eq (g2 := F0 m 4 ls []) rfl ?_
  refine lv_aload_n hx hb dX3_init_4 rfl (lv_at hl 0 rfl) ?_
  refine lv_aload_n hx hb dX3_init_5 rfl (lv_at hl 1 rfl) ?_
  refine xp_putF S X (ci := 3) (fs2 := [.ref (h), .int ((0 : Int32)), .int ((0 : Int32))]) tyX3_ok nmX3 m0 f0 rfl hin3 0 (by decide) (by decide +kernel) rfl hin rfl rfl rfl (Nat.le_of_ble_eq_true rfl) rfl dX3_init_6 (fun H locs X => ?_)
  have k1 : (va_up f (h0) (.inr (3, [.ref (h), .int ((0 : Int32)), .int ((0 : Int32))]))) (h) = .inr (1, [v0, v1, v2, .int (cur), v4]) := up_k f0 fh (by simp)
  have k2 : (va_up f (h0) (.inr (3, [.ref (h), .int ((0 : Int32)), .int ((0 : Int32))]))) (h0) = .inr (3, [.ref (h), .int ((0 : Int32)), .int ((0 : Int32))]) := va_up_s _ _ _
  refine lv_aload_n hx hb dX3_init_9 rfl (lv_at hl 0 rfl) ?_
  refine lv_aload_n hx hb dX3_init_10 rfl (lv_at hl 1 rfl) ?_
  refine xp_getN (host := RX6) S X (ci := 1) mh k1 rfl hin1 3 (by decide) (by decide +kernel) rfl dX3_init_11 ?_
  refine xp_putF S X (ci := 3) (fs2 := [.ref (h), .int (cur), .int ((0 : Int32))]) tyX3_ok nmX3 m0 k2 rfl hin3 1 (by decide) (by decide +kernel) rfl hin rfl rfl rfl (Nat.le_of_ble_eq_true rfl) rfl dX3_init_14 (fun H locs X => ?_)
  have k3 : (va_up (va_up f (h0) (.inr (3, [.ref (h), .int ((0 : Int32)), .int ((0 : Int32))]))) (h0) (.inr (3, [.ref (h), .int (cur), .int ((0 : Int32))]))) (h) = .inr (1, [v0, v1, v2, .int (cur), v4]) := up_k k2 k1 (by simp)
  have k4 : (va_up (va_up f (h0) (.inr (3, [.ref (h), .int ((0 : Int32)), .int ((0 : Int32))]))) (h0) (.inr (3, [.ref (h), .int (cur), .int ((0 : Int32))]))) (h0) = .inr (3, [.ref (h), .int (cur), .int ((0 : Int32))]) := va_up_s _ _ _
  exact hx_vret S X hr hlk (Nat.le_of_ble_eq_true rfl) (Nat.le_of_ble_eq_true rfl) (by rw [up_up]) dX3_init_17

set_option maxRecDepth 100000 in
set_option maxHeartbeats 4000000 in
theorem c_X3_pin (l : Launch) (G : hG) (L : List Nat) (f : Nat → va_E) (h0 hi : Nat) (ver pn o : Int32) (m0 : h0 ∈ L) (f0 : f h0 = .inr (3, [.ref (hi), .int (ver), .int (pn)]))  : hMv l G yX3_pin wsX3_pin ({ frames := 0, cells := 0, slots := 0, locals := 0 } : Room) (va_pl L f) [.ref (h0), .int (o)] (fun w => w = va_pl L (va_up f h0 (.inr (3, [.ref hi, .int ver, .int (pn ||| (1 : Int32) <<< (o &&& 31))])))) := by
  refine hMv.of (cc := cX3_pin) (maxL := 2) none RX3 rfl (by decide +kernel) rfl (Nat.le_of_ble_eq_true rfl) ?_
  intro p e s m args below meth c S hr hlk hin X ls hl
  have hx := S.1
  have hb := S.2.1
  have hown := S.2.2.2.1
  have hts := S.2.2.2.2
  have hl : lv_has ls 2 [(0, .ref (h0)), (1, .int (o))] := hl
  have hin3 : ∀ w ∈ wsX30, w ∈ wsX3_pin := by decide +kernel
  refine lv_aload_n hx hb dX3_pin_0 rfl (lv_at hl 0 rfl) ?_
  refine lv_dup hx hb dX3_pin_1 rfl ?_
  refine xp_get S X (ci := 3) m0 f0 rfl hin3 2 (by decide) (by decide +kernel) rfl dX3_pin_2 ?_
  refine lv_iconst (v := 1) hx hb dX3_pin_5 (by decide) ?_
  refine lv_iload_n hx hb dX3_pin_6 rfl (lv_at hl 1 rfl) ?_
  refine lv_ishl hx hb dX3_pin_7 ?_
  refine lv_ior hx hb dX3_pin_8 ?_
  refine xp_put S X (ci := 3) (fs2 := [.ref (hi), .int (ver), .int ((pn) ||| (((1 : Int32)) <<< ((o) &&& 31)))]) tyX3_ok nmX3 m0 f0 rfl hin3 2 (by decide) (by decide +kernel) rfl rfl rfl (Nat.le_of_ble_eq_true rfl) rfl dX3_pin_9 (fun H locs X => ?_)
  have k1 : (va_up f (h0) (.inr (3, [.ref (hi), .int (ver), .int ((pn) ||| (((1 : Int32)) <<< ((o) &&& 31)))]))) (h0) = .inr (3, [.ref (hi), .int (ver), .int ((pn) ||| (((1 : Int32)) <<< ((o) &&& 31)))]) := va_up_s _ _ _
  exact hx_vret S X hr hlk (Nat.le_of_ble_eq_true rfl) (Nat.le_of_ble_eq_true rfl) rfl dX3_pin_12

set_option maxRecDepth 100000 in
set_option maxHeartbeats 4000000 in
theorem c_X3_pins (l : Launch) (G : hG) (L : List Nat) (f : Nat → va_E) (h0 hi : Nat) (ver pn o : Int32) (m0 : h0 ∈ L) (f0 : f h0 = .inr (3, [.ref (hi), .int (ver), .int (pn)]))  : hMi l G yX3_pins wsX3_pins ({ frames := 0, cells := 0, slots := 0, locals := 0 } : Room) (va_pl L f) [.ref (h0), .int (o)] (fun r w => isB r (pinB pn o) ∧ w = va_pl L f) := by
  refine hMi.of (cc := cX3_pins) (maxL := 2) (some .boolean) RX3 rfl (by decide +kernel) rfl (Nat.le_of_ble_eq_true rfl) ?_
  intro p e s m args below meth c S hr hlk X ls hl
  have hx := S.1
  have hb := S.2.1
  have hown := S.2.2.2.1
  have hts := S.2.2.2.2
  have hl : lv_has ls 2 [(0, .ref (h0)), (1, .int (o))] := hl
  have hin3 : ∀ w ∈ wsX30, w ∈ wsX3_pins := by decide +kernel
  refine lv_aload_n hx hb dX3_pins_0 rfl (lv_at hl 0 rfl) ?_
  refine xp_get S X (ci := 3) m0 f0 rfl hin3 2 (by decide) (by decide +kernel) rfl dX3_pins_1 ?_
  refine lv_iload_n hx hb dX3_pins_4 rfl (lv_at hl 1 rfl) ?_
  refine lv_ishr hx hb dX3_pins_5 ?_
  refine lv_iconst (v := 1) hx hb dX3_pins_6 (by decide) ?_
  refine lv_iand hx hb dX3_pins_7 ?_
  refine lv_iconst (v := 1) hx hb dX3_pins_8 (by decide) ?_
  refine lv_icmp_ne (tgt := 16) hx hb dX3_pins_9 (by decide) (fun c9 => ?_) (fun c9 => ?_)
  · skip
    refine lv_iconst (v := 0) hx hb dX3_pins_16 (by decide) ?_
    exact hx_zret S X hr hlk (Nat.le_of_ble_eq_true rfl) (Nat.le_of_ble_eq_true rfl) (by decide) ⟨isB_f c9 rfl, rfl⟩ dX3_pins_17
  · skip
    refine lv_iconst (v := 1) hx hb dX3_pins_12 (by decide) ?_
    refine lv_goto (tgt := 17) hx hb dX3_pins_13 (by decide) ?_
    exact hx_zret S X hr hlk (Nat.le_of_ble_eq_true rfl) (Nat.le_of_ble_eq_true rfl) (by decide) ⟨isB_t c9 rfl, rfl⟩ dX3_pins_17

set_option maxRecDepth 100000 in
set_option maxHeartbeats 4000000 in
theorem c_X0_init (l : Launch) (G : hG) (L : List Nat) (f : Nat → va_E) (h0 : Nat) (m0 : h0 ∈ L) (f0 : f h0 = .inr (0, [.null, .int ((0 : Int32))]))  : hMv l G yX0_init wsX0_init ({ frames := 1, cells := 1, slots := 8, locals := 20 } : Room) (va_pl L f) [.ref (h0)] (fun w => ∃ q, q ∉ L ∧ w = va_pl (L ++ [q]) (va_up (va_up f q (hAQ G 5 8 (fun _ => none))) h0 (.inr (0, [.ref q, .int 0])))) := by
  refine hMv.of (cc := cX0_init) (maxL := 1) none RX0 rfl (by decide +kernel) rfl (Nat.le_of_ble_eq_true rfl) ?_
  intro p e s m args below meth c S hr hlk hin X ls hl
  have hx := S.1
  have hb := S.2.1
  have hown := S.2.2.2.1
  have hts := S.2.2.2.2
  have hl : lv_has ls 1 [(0, .ref (h0))] := hl
  have hin0 : ∀ w ∈ wsX00, w ∈ wsX0_init := by decide +kernel
  refine lv_aload_n hx hb dX0_init_0 rfl (lv_at hl 0 rfl) ?_
  refine W.objInit hx hb hown (hts (Cond.methodLink RX0 3 objectInit) (by decide +kernel)) (hts (Cond.instanceMethod objectInit) (by decide +kernel)) (hts (Cond.code objectInit ⟨#[0xb1]⟩ 1 none) (by decide +kernel)) rfl (by rw [S.2.2.1]; exact hl.1) rfl dX0_init_1 (Nat.le_of_ble_eq_true rfl) (Nat.le_of_ble_eq_true rfl) ?_
  refine W.eq (g2 := F0 m 4 ls []) rfl ?_
  refine lv_aload_n hx hb dX0_init_4 rfl (lv_at hl 0 rfl) ?_
  refine lv_bipush (v := 8) hx hb dX0_init_5 (by decide) ?_
  refine xp_newQ S X 5 (C := RX3) rfl (by decide +kernel) (by decide +kernel) (N' := 8) (by decide) (Nat.le_of_ble_eq_true rfl) (Nat.le_of_ble_eq_true rfl) dX0_init_7 (fun q1 H hq1 X => ?_)
  have k2 : (va_up f (q1) (hAQ G 5 8 (fun _ => none))) (h0) = .inr (0, [.null, .int ((0 : Int32))]) := up_n f0 (fun q => hq1 (q ▸ m0))
  have k3 : (va_up f (q1) (hAQ G 5 8 (fun _ => none))) (q1) = hAQ G 5 8 (fun _ => none) := va_up_s _ _ _
  refine xp_putF S X (ci := 0) (fs2 := [.ref (q1), .int ((0 : Int32))]) tyX0_ok nmX0 (List.mem_append_left _ m0) k2 rfl hin0 0 (by decide) (by decide +kernel) rfl hin rfl rfl rfl (Nat.le_of_ble_eq_true rfl) rfl dX0_init_10 (fun H locs X => ?_)
  have k4 : (va_up (va_up f (q1) (hAQ G 5 8 (fun _ => none))) (h0) (.inr (0, [.ref (q1), .int ((0 : Int32))]))) (q1) = hAQ G 5 8 (fun _ => none) := up_k k2 k3 (by simp)
  have k5 : (va_up (va_up f (q1) (hAQ G 5 8 (fun _ => none))) (h0) (.inr (0, [.ref (q1), .int ((0 : Int32))]))) (h0) = .inr (0, [.ref (q1), .int ((0 : Int32))]) := va_up_s _ _ _
  exact hx_vret S X hr hlk (Nat.le_of_ble_eq_true rfl) (Nat.le_of_ble_eq_true rfl) ⟨q1, hq1, rfl⟩ dX0_init_13

set_option maxRecDepth 100000 in
set_option maxHeartbeats 4000000 in
theorem c_X0_push (l : Launch) (G : hG) (L : List Nat) (f : Nat → va_E) (h0 fr h n : Nat) (g : Nat → Option Nat) (v0 v1 v2 v4 : Value) (cur : Int32) (m0 : h0 ∈ L) (f0 : f h0 = .inr (0, [.ref (fr), .int (nI (n))])) (m1 : fr ∈ L) (f1 : f fr = hAQ G 5 8 (g)) (mh : h ∈ L) (fh : f h = .inr (1, [v0, v1, v2, .int (cur), v4])) (hn : n ≤ 8) : hMi l G yX0_push wsX0_push ({ frames := 2, cells := 1, slots := 3, locals := 41 } : Room) (va_pl L f) [.ref (h0), .ref (h)] (fun r w => (n = 8 → r = -2000010 ∧ w = va_pl L f) ∧ (n < 8 → r = nI (n + 1) ∧ ∃ q, q ∉ L ∧ w = va_pl (L ++ [q]) (va_up (va_up (va_up f q (.inr (3, [.ref h, .int cur, .int 0]))) fr (hAQ G 5 8 (va_up g n (some q)))) h0 (.inr (0, [.ref fr, .int (nI (n + 1))]))))) := by
  refine hMi.of (cc := cX0_push) (maxL := 2) (some .int) RX0 rfl (by decide +kernel) rfl (Nat.le_of_ble_eq_true rfl) ?_
  intro p e s m args below meth c S hr hlk X ls hl
  have hx := S.1
  have hb := S.2.1
  have hown := S.2.2.2.1
  have hts := S.2.2.2.2
  have hl : lv_has ls 2 [(0, .ref (h0)), (1, .ref (h))] := hl
  have hin0 : ∀ w ∈ wsX00, w ∈ wsX0_push := by decide +kernel
  have hin1 : ∀ w ∈ wsX10, w ∈ wsX0_push := by decide +kernel
  have hin3 : ∀ w ∈ wsX30, w ∈ wsX0_push := by decide +kernel
  refine lv_aload_n hx hb dX0_push_0 rfl (lv_at hl 0 rfl) ?_
  refine xp_get S X (ci := 0) m0 f0 rfl hin0 1 (by decide) (by decide +kernel) rfl dX0_push_1 ?_
  refine lv_bipush (v := 8) hx hb dX0_push_4 (by decide) ?_
  refine lv_icmp_lt (tgt := 12) hx hb dX0_push_6 (by decide) (fun c6 => ?_) (fun c6 => ?_)
  · skip
    have c6 := (nI_ltI (a := n) (b := 8) (by omega) (by omega)).mp c6
    refine lv_aload_n hx hb dX0_push_12 rfl (lv_at hl 0 rfl) ?_
    refine xp_get S X (ci := 0) m0 f0 rfl hin0 0 (by decide) (by decide +kernel) rfl dX0_push_13 ?_
    refine lv_aload_n hx hb dX0_push_16 rfl (lv_at hl 0 rfl) ?_
    refine xp_get S X (ci := 0) m0 f0 rfl hin0 1 (by decide) (by decide +kernel) rfl dX0_push_17 ?_
    refine xp_new S X (ci := 3) (fs := [.null, .int ((0 : Int32)), .int ((0 : Int32))]) tyX3_ok rfl hin3 (by decide +kernel) (by decide +kernel) (by decide +kernel) (fun j hj => by rcases (show j = 0 ∨ j = 1 ∨ j = 2 by omega) with rfl | rfl | rfl <;> rfl) (Nat.le_of_ble_eq_true rfl) (Nat.le_of_ble_eq_true rfl) dX0_push_20 (fun q1 H hq1 X => ?_)
    have k2 : (va_up f (q1) (.inr (3, [.null, .int ((0 : Int32)), .int ((0 : Int32))]))) (h0) = .inr (0, [.ref (fr), .int (nI (n))]) := up_n f0 (fun q => hq1 (q ▸ m0))
    have k3 : (va_up f (q1) (.inr (3, [.null, .int ((0 : Int32)), .int ((0 : Int32))]))) (fr) = hAQ G 5 8 (g) := up_n f1 (fun q => hq1 (q ▸ m1))
    have k4 : (va_up f (q1) (.inr (3, [.null, .int ((0 : Int32)), .int ((0 : Int32))]))) (h) = .inr (1, [v0, v1, v2, .int (cur), v4]) := up_n fh (fun q => hq1 (q ▸ mh))
    have k5 : (va_up f (q1) (.inr (3, [.null, .int ((0 : Int32)), .int ((0 : Int32))]))) (q1) = .inr (3, [.null, .int ((0 : Int32)), .int ((0 : Int32))]) := va_up_s _ _ _
    refine lv_dup hx hb dX0_push_23 rfl ?_
    refine lv_aload_n hx hb dX0_push_24 rfl (lv_at hl 1 rfl) ?_
    refine hx_Iv (rest := [.ref (q1), .int (nI (n)), .ref (fr)]) S X (c_X3_init l G (L ++ [q1]) (va_up f (q1) (.inr (3, [.null, .int ((0 : Int32)), .int ((0 : Int32))]))) (q1) (h) _ _ _ _ _ (List.mem_append_right _ (List.mem_singleton.mpr rfl)) k5 (List.mem_append_left _ mh) k4) gX0_push_X3_init rfl (by decide +kernel) (by decide +kernel) (by decide +kernel) rfl (n := 1) (by decide +kernel) rfl ⟨(Nat.le_of_ble_eq_true rfl), (Nat.le_of_ble_eq_true rfl)⟩ hl.1 rfl (Nat.le_of_ble_eq_true rfl) dX0_push_25 ⟨(Nat.le_of_ble_eq_true rfl), (Nat.le_of_ble_eq_true rfl)⟩ (fun wd1 H locs hp X => ?_)
    obtain rfl := hp
    have k6 : (va_up (va_up f (q1) (.inr (3, [.null, .int ((0 : Int32)), .int ((0 : Int32))]))) (q1) (.inr (3, [.ref (h), .int (cur), .int ((0 : Int32))]))) (h0) = .inr (0, [.ref (fr), .int (nI (n))]) := up_k k5 k2 (by simp)
    have k7 : (va_up (va_up f (q1) (.inr (3, [.null, .int ((0 : Int32)), .int ((0 : Int32))]))) (q1) (.inr (3, [.ref (h), .int (cur), .int ((0 : Int32))]))) (fr) = hAQ G 5 8 (g) := up_k k5 k3 (by simp)
    have k8 : (va_up (va_up f (q1) (.inr (3, [.null, .int ((0 : Int32)), .int ((0 : Int32))]))) (q1) (.inr (3, [.ref (h), .int (cur), .int ((0 : Int32))]))) (h) = .inr (1, [v0, v1, v2, .int (cur), v4]) := up_k k5 k4 (by simp)
    have k9 : (va_up (va_up f (q1) (.inr (3, [.null, .int ((0 : Int32)), .int ((0 : Int32))]))) (q1) (.inr (3, [.ref (h), .int (cur), .int ((0 : Int32))]))) (q1) = .inr (3, [.ref (h), .int (cur), .int ((0 : Int32))]) := va_up_s _ _ _
    refine xp_ast S X 5 (r := (RX3, TX3, 3)) rfl (List.mem_append_left _ m1) k7 (List.mem_append_right _ (List.mem_singleton.mpr rfl)) k9 rfl (j := n) (by omega) (by decide) dX0_push_28 (fun H locs X => ?_)
    have k10 : (va_up (va_up (va_up f (q1) (.inr (3, [.null, .int ((0 : Int32)), .int ((0 : Int32))]))) (q1) (.inr (3, [.ref (h), .int (cur), .int ((0 : Int32))]))) (fr) (hAQ G 5 8 (va_up (g) (n) (some (q1))))) (h0) = .inr (0, [.ref (fr), .int (nI (n))]) := up_k k7 k6 (by simp)
    have k11 : (va_up (va_up (va_up f (q1) (.inr (3, [.null, .int ((0 : Int32)), .int ((0 : Int32))]))) (q1) (.inr (3, [.ref (h), .int (cur), .int ((0 : Int32))]))) (fr) (hAQ G 5 8 (va_up (g) (n) (some (q1))))) (h) = .inr (1, [v0, v1, v2, .int (cur), v4]) := up_k k7 k8 (by simp)
    have k12 : (va_up (va_up (va_up f (q1) (.inr (3, [.null, .int ((0 : Int32)), .int ((0 : Int32))]))) (q1) (.inr (3, [.ref (h), .int (cur), .int ((0 : Int32))]))) (fr) (hAQ G 5 8 (va_up (g) (n) (some (q1))))) (q1) = .inr (3, [.ref (h), .int (cur), .int ((0 : Int32))]) := up_k k7 k9 (by simp)
    have k13 : (va_up (va_up (va_up f (q1) (.inr (3, [.null, .int ((0 : Int32)), .int ((0 : Int32))]))) (q1) (.inr (3, [.ref (h), .int (cur), .int ((0 : Int32))]))) (fr) (hAQ G 5 8 (va_up (g) (n) (some (q1))))) (fr) = hAQ G 5 8 (va_up (g) (n) (some (q1))) := va_up_s _ _ _
    refine lv_aload_n hx hb dX0_push_29 rfl (lv_at hl 0 rfl) ?_
    refine lv_dup hx hb dX0_push_30 rfl ?_
    refine xp_get S X (ci := 0) (List.mem_append_left _ m0) k10 rfl hin0 1 (by decide) (by decide +kernel) rfl dX0_push_31 ?_
    refine lv_iconst (v := 1) hx hb dX0_push_34 (by decide) ?_
    refine lv_iadd hx hb dX0_push_35 ?_
    refine hx_ei (show _ = nI (n + 1) from nI_add (n) (1)) ?_
    refine xp_put S X (ci := 0) (fs2 := [.ref (fr), .int (nI (n + 1))]) tyX0_ok nmX0 (List.mem_append_left _ m0) k10 rfl hin0 1 (by decide) (by decide +kernel) rfl rfl rfl (Nat.le_of_ble_eq_true rfl) rfl dX0_push_36 (fun H locs X => ?_)
    have k14 : (va_up (va_up (va_up (va_up f (q1) (.inr (3, [.null, .int ((0 : Int32)), .int ((0 : Int32))]))) (q1) (.inr (3, [.ref (h), .int (cur), .int ((0 : Int32))]))) (fr) (hAQ G 5 8 (va_up (g) (n) (some (q1))))) (h0) (.inr (0, [.ref (fr), .int (nI (n + 1))]))) (h) = .inr (1, [v0, v1, v2, .int (cur), v4]) := up_k k10 k11 (by simp)
    have k15 : (va_up (va_up (va_up (va_up f (q1) (.inr (3, [.null, .int ((0 : Int32)), .int ((0 : Int32))]))) (q1) (.inr (3, [.ref (h), .int (cur), .int ((0 : Int32))]))) (fr) (hAQ G 5 8 (va_up (g) (n) (some (q1))))) (h0) (.inr (0, [.ref (fr), .int (nI (n + 1))]))) (q1) = .inr (3, [.ref (h), .int (cur), .int ((0 : Int32))]) := up_k k10 k12 (by simp)
    have k16 : (va_up (va_up (va_up (va_up f (q1) (.inr (3, [.null, .int ((0 : Int32)), .int ((0 : Int32))]))) (q1) (.inr (3, [.ref (h), .int (cur), .int ((0 : Int32))]))) (fr) (hAQ G 5 8 (va_up (g) (n) (some (q1))))) (h0) (.inr (0, [.ref (fr), .int (nI (n + 1))]))) (fr) = hAQ G 5 8 (va_up (g) (n) (some (q1))) := up_k k10 k13 (by simp)
    have k17 : (va_up (va_up (va_up (va_up f (q1) (.inr (3, [.null, .int ((0 : Int32)), .int ((0 : Int32))]))) (q1) (.inr (3, [.ref (h), .int (cur), .int ((0 : Int32))]))) (fr) (hAQ G 5 8 (va_up (g) (n) (some (q1))))) (h0) (.inr (0, [.ref (fr), .int (nI (n + 1))]))) (h0) = .inr (0, [.ref (fr), .int (nI (n + 1))]) := va_up_s _ _ _
    refine lv_aload_n hx hb dX0_push_39 rfl (lv_at hl 0 rfl) ?_
    refine xp_get S X (ci := 0) (List.mem_append_left _ m0) k17 rfl hin0 1 (by decide) (by decide +kernel) rfl dX0_push_40 ?_
    exact hx_iret S X hr hlk (Nat.le_of_ble_eq_true rfl) (Nat.le_of_ble_eq_true rfl) ⟨fun q => by omega, fun _ => ⟨rfl, q1, hq1, by rw [up_up]⟩⟩ dX0_push_43
  · skip
    have c6 := (not_congr (nI_ltI (a := n) (b := 8) (by omega) (by omega))).mp c6
    refine lv_ldc (v := -2000010) hx hb hown (hts (Cond.constant RX0 21 (-2000010)) (by decide +kernel)) dX0_push_9 ?_
    exact hx_iret S X hr hlk (Nat.le_of_ble_eq_true rfl) (Nat.le_of_ble_eq_true rfl) ⟨fun _ => ⟨rfl, rfl⟩, fun q => by omega⟩ dX0_push_11

set_option maxRecDepth 100000 in
set_option maxHeartbeats 4000000 in
theorem c_X0_pop (l : Launch) (G : hG) (L : List Nat) (f : Nat → va_E) (h0 fr n : Nat) (g : Nat → Option Nat) (m0 : h0 ∈ L) (f0 : f h0 = .inr (0, [.ref (fr), .int (nI (n))])) (m1 : fr ∈ L) (f1 : f fr = hAQ G 5 8 (g)) (hn : n ≤ 8) : hMi l G yX0_pop wsX0_pop ({ frames := 0, cells := 0, slots := 0, locals := 0 } : Room) (va_pl L f) [.ref (h0)] (fun r w => (n = 0 → r = -2000006 ∧ w = va_pl L f) ∧ (0 < n → r = nI (n - 1) ∧ w = va_pl L (va_up (va_up f h0 (.inr (0, [.ref fr, .int (nI (n - 1))]))) fr (hAQ G 5 8 (va_up g (n - 1) none))))) := by
  refine hMi.of (cc := cX0_pop) (maxL := 1) (some .int) RX0 rfl (by decide +kernel) rfl (Nat.le_of_ble_eq_true rfl) ?_
  intro p e s m args below meth c S hr hlk X ls hl
  have hx := S.1
  have hb := S.2.1
  have hown := S.2.2.2.1
  have hts := S.2.2.2.2
  have hl : lv_has ls 1 [(0, .ref (h0))] := hl
  have hin0 : ∀ w ∈ wsX00, w ∈ wsX0_pop := by decide +kernel
  refine lv_aload_n hx hb dX0_pop_0 rfl (lv_at hl 0 rfl) ?_
  refine xp_get S X (ci := 0) m0 f0 rfl hin0 1 (by decide) (by decide +kernel) rfl dX0_pop_1 ?_
  refine lv_if_gt (tgt := 10) hx hb dX0_pop_4 (by decide) (fun c4 => ?_) (fun c4 => ?_)
  · skip
    have c4 := (nI_ltI (a := 0) (b := n) (by omega) (by omega)).mp c4
    refine lv_aload_n hx hb dX0_pop_10 rfl (lv_at hl 0 rfl) ?_
    refine lv_dup hx hb dX0_pop_11 rfl ?_
    refine xp_get S X (ci := 0) m0 f0 rfl hin0 1 (by decide) (by decide +kernel) rfl dX0_pop_12 ?_
    refine lv_iconst (v := 1) hx hb dX0_pop_15 (by decide) ?_
    refine lv_isub hx hb dX0_pop_16 ?_
    refine hx_ei (show _ = nI ((n) - (1)) from pk_sub (a := n) (b := 1) (by omega)) ?_
    refine xp_put S X (ci := 0) (fs2 := [.ref (fr), .int (nI ((n) - (1)))]) tyX0_ok nmX0 m0 f0 rfl hin0 1 (by decide) (by decide +kernel) rfl rfl rfl (Nat.le_of_ble_eq_true rfl) rfl dX0_pop_17 (fun H locs X => ?_)
    have k1 : (va_up f (h0) (.inr (0, [.ref (fr), .int (nI ((n) - (1)))]))) (fr) = hAQ G 5 8 (g) := up_k f0 f1 (by simp)
    have k2 : (va_up f (h0) (.inr (0, [.ref (fr), .int (nI ((n) - (1)))]))) (h0) = .inr (0, [.ref (fr), .int (nI ((n) - (1)))]) := va_up_s _ _ _
    refine lv_aload_n hx hb dX0_pop_20 rfl (lv_at hl 0 rfl) ?_
    refine xp_get S X (ci := 0) m0 k2 rfl hin0 0 (by decide) (by decide +kernel) rfl dX0_pop_21 ?_
    refine lv_aload_n hx hb dX0_pop_24 rfl (lv_at hl 0 rfl) ?_
    refine xp_get S X (ci := 0) m0 k2 rfl hin0 1 (by decide) (by decide +kernel) rfl dX0_pop_25 ?_
    refine lv_null hx hb dX0_pop_28 ?_
    refine xp_astN S X 5 rfl m1 k1 (j := (n) - (1)) (by omega) (by decide) dX0_pop_29 (fun H locs X => ?_)
    have k3 : (va_up (va_up f (h0) (.inr (0, [.ref (fr), .int (nI ((n) - (1)))]))) (fr) (hAQ G 5 8 (va_up (g) ((n) - (1)) none))) (h0) = .inr (0, [.ref (fr), .int (nI ((n) - (1)))]) := up_k k1 k2 (by simp)
    have k4 : (va_up (va_up f (h0) (.inr (0, [.ref (fr), .int (nI ((n) - (1)))]))) (fr) (hAQ G 5 8 (va_up (g) ((n) - (1)) none))) (fr) = hAQ G 5 8 (va_up (g) ((n) - (1)) none) := va_up_s _ _ _
    refine lv_aload_n hx hb dX0_pop_30 rfl (lv_at hl 0 rfl) ?_
    refine xp_get S X (ci := 0) m0 k3 rfl hin0 1 (by decide) (by decide +kernel) rfl dX0_pop_31 ?_
    exact hx_iret S X hr hlk (Nat.le_of_ble_eq_true rfl) (Nat.le_of_ble_eq_true rfl) ⟨fun q => by omega, fun _ => ⟨rfl, rfl⟩⟩ dX0_pop_34
  · skip
    have c4 := (not_congr (nI_ltI (a := 0) (b := n) (by omega) (by omega))).mp c4
    refine lv_ldc (v := -2000006) hx hb hown (hts (Cond.constant RX0 25 (-2000006)) (by decide +kernel)) dX0_pop_7 ?_
    exact hx_iret S X hr hlk (Nat.le_of_ble_eq_true rfl) (Nat.le_of_ble_eq_true rfl) ⟨fun _ => ⟨rfl, rfl⟩, fun q => by omega⟩ dX0_pop_9

set_option maxRecDepth 100000 in
set_option maxHeartbeats 4000000 in
theorem c_X0_frameAt (l : Launch) (G : hG) (L : List Nat) (f : Nat → va_E) (h0 fr n : Nat) (g : Nat → Option Nat) (x : Int32) (m0 : h0 ∈ L) (f0 : f h0 = .inr (0, [.ref (fr), .int (nI (n))])) (m1 : fr ∈ L) (f1 : f fr = hAQ G 5 8 (g)) (hn : n ≤ 8) : hMq l G yX0_frameAt wsX0_frameAt ({ frames := 0, cells := 0, slots := 0, locals := 0 } : Room) (va_pl L f) [.ref (h0), .int (x)] (fun r w => (∀ k, k < n → x = nI k → r = g k) ∧ ((¬ ∃ k : Nat, k < n ∧ x = nI k) → r = none) ∧ w = va_pl L f) := by
  refine hMq.of (cc := cX0_frameAt) (maxL := 2) (some (.object "LiveUpgrader$Frame")) RX0 rfl (by decide +kernel) rfl (Nat.le_of_ble_eq_true rfl) ?_
  intro p e s m args below meth c S hr hlk X ls hl
  have hx := S.1
  have hb := S.2.1
  have hown := S.2.2.2.1
  have hts := S.2.2.2.2
  have hl : lv_has ls 2 [(0, .ref (h0)), (1, .int (x))] := hl
  have hin0 : ∀ w ∈ wsX00, w ∈ wsX0_frameAt := by decide +kernel
  refine lv_iload_n hx hb dX0_frameAt_0 rfl (lv_at hl 1 rfl) ?_
  refine lv_if_lt (tgt := 12) hx hb dX0_frameAt_1 (by decide) (fun c1 => ?_) (fun c1 => ?_)
  · skip
    refine lv_null hx hb dX0_frameAt_12 ?_
    exact hx_qret none rfl S X hr hlk (Nat.le_of_ble_eq_true rfl) (Nat.le_of_ble_eq_true rfl) ⟨fun k hk e => absurd c1 (by rw [e]; exact nI_pos (by omega)), fun _ => rfl, rfl⟩ dX0_frameAt_13
  · skip
    refine lv_iload_n hx hb dX0_frameAt_4 rfl (lv_at hl 1 rfl) ?_
    refine lv_aload_n hx hb dX0_frameAt_5 rfl (lv_at hl 0 rfl) ?_
    refine xp_get S X (ci := 0) m0 f0 rfl hin0 1 (by decide) (by decide +kernel) rfl dX0_frameAt_6 ?_
    refine lv_icmp_lt (tgt := 14) hx hb dX0_frameAt_9 (by decide) (fun c9 => ?_) (fun c9 => ?_)
    · skip
      obtain ⟨k, hk, rfl⟩ := (in_0 (by omega) x).mp ⟨Int32.not_lt.mp c1, c9⟩
      refine lv_aload_n hx hb dX0_frameAt_14 rfl (lv_at hl 0 rfl) ?_
      refine xp_get S X (ci := 0) m0 f0 rfl hin0 0 (by decide) (by decide +kernel) rfl dX0_frameAt_15 ?_
      refine lv_iload_n hx hb dX0_frameAt_18 rfl (lv_at hl 1 rfl) ?_
      refine xp_ald S X 5 rfl rfl m1 f1 (j := k) (by omega) (by decide) (x := va_rf (g k)) (rfl) dX0_frameAt_19 ?_
      exact hx_qret (g k) rfl S X hr hlk (Nat.le_of_ble_eq_true rfl) (Nat.le_of_ble_eq_true rfl) ⟨fun k2 _ e => by rw [(nI_eq (by omega) (by omega)).mp e], fun q => absurd ⟨k, hk, rfl⟩ q, rfl⟩ dX0_frameAt_20
    · skip
      refine lv_null hx hb dX0_frameAt_12 ?_
      exact hx_qret none rfl S X hr hlk (Nat.le_of_ble_eq_true rfl) (Nat.le_of_ble_eq_true rfl) ⟨fun k hk e => absurd (by rw [e]; exact nI_lt hk (by omega)) c9, fun _ => rfl, rfl⟩ dX0_frameAt_13

set_option maxRecDepth 100000 in
set_option maxHeartbeats 4000000 in
theorem c_X0_top (l : Launch) (G : hG) (L : List Nat) (f : Nat → va_E) (h0 fr n : Nat) (g : Nat → Option Nat) (m0 : h0 ∈ L) (f0 : f h0 = .inr (0, [.ref (fr), .int (nI (n))])) (m1 : fr ∈ L) (f1 : f fr = hAQ G 5 8 (g)) (hn : n ≤ 8) : hMq l G yX0_top wsX0_top ({ frames := 1, cells := 0, slots := 0, locals := 21 } : Room) (va_pl L f) [.ref (h0)] (fun r w => (n = 0 → r = none) ∧ (0 < n → r = g (n - 1)) ∧ w = va_pl L f) := by
  refine hMq.of (cc := cX0_top) (maxL := 1) (some (.object "LiveUpgrader$Frame")) RX0 rfl (by decide +kernel) rfl (Nat.le_of_ble_eq_true rfl) ?_
  intro p e s m args below meth c S hr hlk X ls hl
  have hx := S.1
  have hb := S.2.1
  have hown := S.2.2.2.1
  have hts := S.2.2.2.2
  have hl : lv_has ls 1 [(0, .ref (h0))] := hl
  have hin0 : ∀ w ∈ wsX00, w ∈ wsX0_top := by decide +kernel
  refine lv_aload_n hx hb dX0_top_0 rfl (lv_at hl 0 rfl) ?_
  refine lv_aload_n hx hb dX0_top_1 rfl (lv_at hl 0 rfl) ?_
  refine xp_get S X (ci := 0) m0 f0 rfl hin0 1 (by decide) (by decide +kernel) rfl dX0_top_2 ?_
  refine lv_iconst (v := 1) hx hb dX0_top_5 (by decide) ?_
  refine lv_isub hx hb dX0_top_6 ?_
  refine hx_ei (show _ = nI n - 1 from rfl) ?_
  refine hx_Vq (rest := []) S X (c_X0_frameAt l G L f (h0) (fr) (n) (g) (nI n - 1) m0 f0 m1 f1 (by omega)) gX0_top_X0_frameAt rfl (n := 1) (by decide +kernel) rfl ⟨(Nat.le_of_ble_eq_true rfl), (Nat.le_of_ble_eq_true rfl)⟩ (xp_recv (ci := 0) X rfl m0 f0) hl.1 rfl (Nat.le_of_ble_eq_true rfl) dX0_top_7 ⟨(Nat.le_of_ble_eq_true rfl), (Nat.le_of_ble_eq_true rfl)⟩ (fun r wd1 H locs hp X => ?_)
  obtain ⟨hr7, hs7, rfl⟩ := hp
  exact hx_qret (r) rfl S X hr hlk (Nat.le_of_ble_eq_true rfl) (Nat.le_of_ble_eq_true rfl) ⟨fun q => hs7 (by subst q; rintro ⟨k, hk, _⟩; omega), fun q => hr7 (n - 1) (by omega) (pk_sub (a := n) (b := 1) q), rfl⟩ dX0_top_10

set_option maxRecDepth 100000 in
set_option maxHeartbeats 4000000 in
theorem c_X4_init (l : Launch) (G : hG) (L : List Nat) (f : Nat → va_E) (h0 : Nat) (ka fa oa : Int32) (m0 : h0 ∈ L) (f0 : f h0 = .inr (4, [.int ((0 : Int32)), .int ((0 : Int32)), .int ((0 : Int32))]))  : hMv l G yX4_init wsX4_init ({ frames := 1, cells := 0, slots := 0, locals := 20 } : Room) (va_pl L f) [.ref (h0), .int (ka), .int (fa), .int (oa)] (fun w => w = va_pl L (va_up f h0 (.inr (4, [.int ka, .int fa, .int oa])))) := by
  refine hMv.of (cc := cX4_init) (maxL := 4) none RX4 rfl (by decide +kernel) rfl (Nat.le_of_ble_eq_true rfl) ?_
  intro p e s m args below meth c S hr hlk hin X ls hl
  have hx := S.1
  have hb := S.2.1
  have hown := S.2.2.2.1
  have hts := S.2.2.2.2
  have hl : lv_has ls 4 [(0, .ref (h0)), (1, .int (ka)), (2, .int (fa)), (3, .int (oa))] := hl
  have hin4 : ∀ w ∈ wsX40, w ∈ wsX4_init := by decide +kernel
  refine lv_aload_n hx hb dX4_init_0 rfl (lv_at hl 0 rfl) ?_
  refine W.objInit hx hb hown (hts (Cond.methodLink RX4 1 objectInit) (by decide +kernel)) (hts (Cond.instanceMethod objectInit) (by decide +kernel)) (hts (Cond.code objectInit ⟨#[0xb1]⟩ 1 none) (by decide +kernel)) rfl (by rw [S.2.2.1]; exact hl.1) rfl dX4_init_1 (Nat.le_of_ble_eq_true rfl) (Nat.le_of_ble_eq_true rfl) ?_
  refine W.eq (g2 := F0 m 4 ls []) rfl ?_
  refine lv_aload_n hx hb dX4_init_4 rfl (lv_at hl 0 rfl) ?_
  refine lv_iload_n hx hb dX4_init_5 rfl (lv_at hl 1 rfl) ?_
  refine xp_putF S X (ci := 4) (fs2 := [.int (ka), .int ((0 : Int32)), .int ((0 : Int32))]) tyX4_ok nmX4 m0 f0 rfl hin4 0 (by decide) (by decide +kernel) rfl hin rfl rfl rfl (Nat.le_of_ble_eq_true rfl) rfl dX4_init_6 (fun H locs X => ?_)
  have k1 : (va_up f (h0) (.inr (4, [.int (ka), .int ((0 : Int32)), .int ((0 : Int32))]))) (h0) = .inr (4, [.int (ka), .int ((0 : Int32)), .int ((0 : Int32))]) := va_up_s _ _ _
  refine lv_aload_n hx hb dX4_init_9 rfl (lv_at hl 0 rfl) ?_
  refine lv_iload_n hx hb dX4_init_10 rfl (lv_at hl 2 rfl) ?_
  refine xp_putF S X (ci := 4) (fs2 := [.int (ka), .int (fa), .int ((0 : Int32))]) tyX4_ok nmX4 m0 k1 rfl hin4 1 (by decide) (by decide +kernel) rfl hin rfl rfl rfl (Nat.le_of_ble_eq_true rfl) rfl dX4_init_11 (fun H locs X => ?_)
  have k2 : (va_up (va_up f (h0) (.inr (4, [.int (ka), .int ((0 : Int32)), .int ((0 : Int32))]))) (h0) (.inr (4, [.int (ka), .int (fa), .int ((0 : Int32))]))) (h0) = .inr (4, [.int (ka), .int (fa), .int ((0 : Int32))]) := va_up_s _ _ _
  refine lv_aload_n hx hb dX4_init_14 rfl (lv_at hl 0 rfl) ?_
  refine lv_iload_n hx hb dX4_init_15 rfl (lv_at hl 3 rfl) ?_
  refine xp_putF S X (ci := 4) (fs2 := [.int (ka), .int (fa), .int (oa)]) tyX4_ok nmX4 m0 k2 rfl hin4 2 (by decide) (by decide +kernel) rfl hin rfl rfl rfl (Nat.le_of_ble_eq_true rfl) rfl dX4_init_16 (fun H locs X => ?_)
  have k3 : (va_up (va_up (va_up f (h0) (.inr (4, [.int (ka), .int ((0 : Int32)), .int ((0 : Int32))]))) (h0) (.inr (4, [.int (ka), .int (fa), .int ((0 : Int32))]))) (h0) (.inr (4, [.int (ka), .int (fa), .int (oa)]))) (h0) = .inr (4, [.int (ka), .int (fa), .int (oa)]) := va_up_s _ _ _
  exact hx_vret S X hr hlk (Nat.le_of_ble_eq_true rfl) (Nat.le_of_ble_eq_true rfl) (by rw [up_up, up_up]) dX4_init_19

set_option maxRecDepth 100000 in
set_option maxHeartbeats 4000000 in
theorem c_X4_changedSet (l : Launch) (G : hG) (L : List Nat) (f : Nat → va_E) (h0 : Nat) (ka fa oa x : Int32) (m0 : h0 ∈ L) (f0 : f h0 = .inr (4, [.int (ka), .int (fa), .int (oa)])) (hok : okSt ka fa oa) : hMi l G yX4_changedSet wsX4_changedSet ({ frames := 0, cells := 0, slots := 0, locals := 0 } : Room) (va_pl L f) [.ref (h0), .int (x)] (fun r w => r = chS ka fa oa x ∧ w = va_pl L f) := by
  refine hMi.of (cc := cX4_changedSet) (maxL := 2) (some .int) RX4 rfl (by decide +kernel) rfl (Nat.le_of_ble_eq_true rfl) ?_
  intro p e s m args below meth c S hr hlk X ls hl
  have hx := S.1
  have hb := S.2.1
  have hown := S.2.2.2.1
  have hts := S.2.2.2.2
  have hl : lv_has ls 2 [(0, .ref (h0)), (1, .int (x))] := hl
  have hin4 : ∀ w ∈ wsX40, w ∈ wsX4_changedSet := by decide +kernel
  obtain ⟨⟨a, ha8, rfl⟩, hk⟩ := hok
  rcases hk with ⟨rfl, hbv⟩ | rfl | ⟨rfl, b, hb8, rfl⟩ | ⟨rfl, hbv⟩ | ⟨rfl, b, hb8, rfl⟩
  · skip
    have ca : cN (nI a) = a := nI_clamp (by omega)
    refine lv_aload_n hx hb dX4_changedSet_0 rfl (lv_at hl 0 rfl) ?_
    refine xp_get S X (ci := 4) m0 f0 rfl hin4 0 (by decide) (by decide +kernel) rfl dX4_changedSet_1 ?_
    refine lv_tableIn (off := 36) (tgt := 40) hx hb dX4_changedSet_4 (by decide) (by decide) (by decide) (by decide) ?_
    refine lv_iload_n hx hb dX4_changedSet_40 rfl (lv_at hl 1 rfl) ?_
    refine lv_iconst (v := 1) hx hb dX4_changedSet_41 (by decide) ?_
    refine lv_aload_n hx hb dX4_changedSet_42 rfl (lv_at hl 0 rfl) ?_
    refine xp_get S X (ci := 4) m0 f0 rfl hin4 1 (by decide) (by decide +kernel) rfl dX4_changedSet_43 ?_
    refine lv_ishl hx hb dX4_changedSet_46 ?_
    refine lv_ior hx hb dX4_changedSet_47 ?_
    exact hx_iret S X hr hlk (Nat.le_of_ble_eq_true rfl) (Nat.le_of_ble_eq_true rfl) (by simp [chS]) dX4_changedSet_48
  · skip
    have ca : cN (nI a) = a := nI_clamp (by omega)
    refine lv_aload_n hx hb dX4_changedSet_0 rfl (lv_at hl 0 rfl) ?_
    refine xp_get S X (ci := 4) m0 f0 rfl hin4 0 (by decide) (by decide +kernel) rfl dX4_changedSet_1 ?_
    refine lv_tableIn (off := 63) (tgt := 67) hx hb dX4_changedSet_4 (by decide) (by decide) (by decide) (by decide) ?_
    refine lv_iload_n hx hb dX4_changedSet_67 rfl (lv_at hl 1 rfl) ?_
    refine lv_iconst (v := 1) hx hb dX4_changedSet_68 (by decide) ?_
    refine lv_aload_n hx hb dX4_changedSet_69 rfl (lv_at hl 0 rfl) ?_
    refine xp_get S X (ci := 4) m0 f0 rfl hin4 1 (by decide) (by decide +kernel) rfl dX4_changedSet_70 ?_
    refine lv_ishl hx hb dX4_changedSet_73 ?_
    refine lv_iconst (v := -1) hx hb dX4_changedSet_74 (by decide) ?_
    refine lv_ixor hx hb dX4_changedSet_75 ?_
    refine lv_iand hx hb dX4_changedSet_76 ?_
    exact hx_iret S X hr hlk (Nat.le_of_ble_eq_true rfl) (Nat.le_of_ble_eq_true rfl) (by simp [chS]) dX4_changedSet_77
  · skip
    have ca : cN (nI a) = a := nI_clamp (by omega)
    have cb : cN (nI b) = b := nI_clamp (by omega)
    refine lv_aload_n hx hb dX4_changedSet_0 rfl (lv_at hl 0 rfl) ?_
    refine xp_get S X (ci := 4) m0 f0 rfl hin4 0 (by decide) (by decide +kernel) rfl dX4_changedSet_1 ?_
    refine lv_tableIn (off := 45) (tgt := 49) hx hb dX4_changedSet_4 (by decide) (by decide) (by decide) (by decide) ?_
    refine lv_iload_n hx hb dX4_changedSet_49 rfl (lv_at hl 1 rfl) ?_
    refine lv_iconst (v := 1) hx hb dX4_changedSet_50 (by decide) ?_
    refine lv_aload_n hx hb dX4_changedSet_51 rfl (lv_at hl 0 rfl) ?_
    refine xp_get S X (ci := 4) m0 f0 rfl hin4 1 (by decide) (by decide +kernel) rfl dX4_changedSet_52 ?_
    refine lv_ishl hx hb dX4_changedSet_55 ?_
    refine lv_iconst (v := -1) hx hb dX4_changedSet_56 (by decide) ?_
    refine lv_ixor hx hb dX4_changedSet_57 ?_
    refine lv_iand hx hb dX4_changedSet_58 ?_
    refine lv_iconst (v := 1) hx hb dX4_changedSet_59 (by decide) ?_
    refine lv_aload_n hx hb dX4_changedSet_60 rfl (lv_at hl 0 rfl) ?_
    refine xp_get S X (ci := 4) m0 f0 rfl hin4 2 (by decide) (by decide +kernel) rfl dX4_changedSet_61 ?_
    refine lv_ishl hx hb dX4_changedSet_64 ?_
    refine lv_ior hx hb dX4_changedSet_65 ?_
    exact hx_iret S X hr hlk (Nat.le_of_ble_eq_true rfl) (Nat.le_of_ble_eq_true rfl) (by simp [chS]) dX4_changedSet_66
  · skip
    have ca : cN (nI a) = a := nI_clamp (by omega)
    refine lv_aload_n hx hb dX4_changedSet_0 rfl (lv_at hl 0 rfl) ?_
    refine xp_get S X (ci := 4) m0 f0 rfl hin4 0 (by decide) (by decide +kernel) rfl dX4_changedSet_1 ?_
    refine lv_tableIn (off := 74) (tgt := 78) hx hb dX4_changedSet_4 (by decide) (by decide) (by decide) (by decide) ?_
    refine lv_iload_n hx hb dX4_changedSet_78 rfl (lv_at hl 1 rfl) ?_
    exact hx_iret S X hr hlk (Nat.le_of_ble_eq_true rfl) (Nat.le_of_ble_eq_true rfl) (by simp [chS]) dX4_changedSet_79
  · skip
    have ca : cN (nI a) = a := nI_clamp (by omega)
    have cb : cN (nI b) = b := nI_clamp (by omega)
    refine lv_aload_n hx hb dX4_changedSet_0 rfl (lv_at hl 0 rfl) ?_
    refine xp_get S X (ci := 4) m0 f0 rfl hin4 0 (by decide) (by decide +kernel) rfl dX4_changedSet_1 ?_
    refine lv_tableIn (off := 63) (tgt := 67) hx hb dX4_changedSet_4 (by decide) (by decide) (by decide) (by decide) ?_
    refine lv_iload_n hx hb dX4_changedSet_67 rfl (lv_at hl 1 rfl) ?_
    refine lv_iconst (v := 1) hx hb dX4_changedSet_68 (by decide) ?_
    refine lv_aload_n hx hb dX4_changedSet_69 rfl (lv_at hl 0 rfl) ?_
    refine xp_get S X (ci := 4) m0 f0 rfl hin4 1 (by decide) (by decide +kernel) rfl dX4_changedSet_70 ?_
    refine lv_ishl hx hb dX4_changedSet_73 ?_
    refine lv_iconst (v := -1) hx hb dX4_changedSet_74 (by decide) ?_
    refine lv_ixor hx hb dX4_changedSet_75 ?_
    refine lv_iand hx hb dX4_changedSet_76 ?_
    exact hx_iret S X hr hlk (Nat.le_of_ble_eq_true rfl) (Nat.le_of_ble_eq_true rfl) (by simp [chS]) dX4_changedSet_77

set_option maxRecDepth 100000 in
set_option maxHeartbeats 4000000 in
theorem c_X6_isField (l : Launch) (G : hG) (wd : va_W) (x : Int32)  : hMi l G yX6_isField wsX6_isField ({ frames := 0, cells := 0, slots := 0, locals := 0 } : Room) wd [.int (x)] (fun r w => isB r (isF x) ∧ w = wd) := by
  refine hMi.of (cc := cX6_isField) (maxL := 1) (some .boolean) RX6 rfl (by decide +kernel) rfl (Nat.le_of_ble_eq_true rfl) ?_
  intro p e s m args below meth c S hr hlk X ls hl
  have hx := S.1
  have hb := S.2.1
  have hown := S.2.2.2.1
  have hts := S.2.2.2.2
  have hl : lv_has ls 1 [(0, .int (x))] := hl
  refine lv_iload_n hx hb dX6_isField_0 rfl (lv_at hl 0 rfl) ?_
  refine lv_if_lt (tgt := 14) hx hb dX6_isField_1 (by decide) (fun c1 => ?_) (fun c1 => ?_)
  · skip
    refine lv_iconst (v := 0) hx hb dX6_isField_14 (by decide) ?_
    exact hx_zret S X hr hlk (Nat.le_of_ble_eq_true rfl) (Nat.le_of_ble_eq_true rfl) (by decide) ⟨isB_f (fun q => absurd ((in_0 (n := 8) (by decide) x).mpr q).1 (Int32.not_le.mpr c1)) rfl, rfl⟩ dX6_isField_15
  · skip
    refine lv_iload_n hx hb dX6_isField_4 rfl (lv_at hl 0 rfl) ?_
    refine lv_bipush (v := 8) hx hb dX6_isField_5 (by decide) ?_
    refine lv_icmp_ge (tgt := 14) hx hb dX6_isField_7 (by decide) (fun c7 => ?_) (fun c7 => ?_)
    · skip
      refine lv_iconst (v := 0) hx hb dX6_isField_14 (by decide) ?_
      exact hx_zret S X hr hlk (Nat.le_of_ble_eq_true rfl) (Nat.le_of_ble_eq_true rfl) (by decide) ⟨isB_f (fun q => absurd ((in_0 (n := 8) (by decide) x).mpr q).2 (Int32.not_lt.mpr c7)) rfl, rfl⟩ dX6_isField_15
    · skip
      refine lv_iconst (v := 1) hx hb dX6_isField_10 (by decide) ?_
      refine lv_goto (tgt := 15) hx hb dX6_isField_11 (by decide) ?_
      exact hx_zret S X hr hlk (Nat.le_of_ble_eq_true rfl) (Nat.le_of_ble_eq_true rfl) (by decide) ⟨isB_t ((in_0 (n := 8) (by decide) x).mp ⟨Int32.not_lt.mp c1, Int32.not_le.mp c7⟩) rfl, rfl⟩ dX6_isField_15

set_option maxRecDepth 100000 in
set_option maxHeartbeats 4000000 in
theorem c_X6_isValue (l : Launch) (G : hG) (wd : va_W) (x : Int64)  : hMi l G yX6_isValue wsX6_isValue ({ frames := 0, cells := 0, slots := 0, locals := 0 } : Room) wd [.long (x)] (fun r w => isB r (isVL x) ∧ w = wd) := by
  refine hMi.of (cc := cX6_isValue) (maxL := 2) (some .boolean) RX6 rfl (by decide +kernel) rfl (Nat.le_of_ble_eq_true rfl) ?_
  intro p e s m args below meth c S hr hlk X ls hl
  have hx := S.1
  have hb := S.2.1
  have hown := S.2.2.2.1
  have hts := S.2.2.2.2
  have hl : lv_has ls 2 [(0, .long (x))] := hl
  refine lv_lload_n hx hb dX6_isValue_0 rfl (lv_at hl 0 rfl) ?_
  refine lv_ldc2 (v := -1000000) hx hb hown (hts (Cond.constantLong RX6 176 (-1000000)) (by decide +kernel)) dX6_isValue_1 ?_
  refine W.lcmp hx hb dX6_isValue_4 ?_
  refine lv_if_lt (tgt := 20) hx hb dX6_isValue_5 (by decide) (fun c5 => ?_) (fun c5 => ?_)
  · skip
    refine lv_iconst (v := 0) hx hb dX6_isValue_20 (by decide) ?_
    exact hx_zret S X hr hlk (Nat.le_of_ble_eq_true rfl) (Nat.le_of_ble_eq_true rfl) (by decide) ⟨isB_f (fun q => absurd ((lc_lt _ _).mp c5) (Int64.not_lt.mpr q.1)) rfl, rfl⟩ dX6_isValue_21
  · skip
    refine lv_lload_n hx hb dX6_isValue_8 rfl (lv_at hl 0 rfl) ?_
    refine lv_ldc2 (v := 1000000) hx hb hown (hts (Cond.constantLong RX6 178 (1000000)) (by decide +kernel)) dX6_isValue_9 ?_
    refine W.lcmp hx hb dX6_isValue_12 ?_
    refine lv_if_gt (tgt := 20) hx hb dX6_isValue_13 (by decide) (fun c13 => ?_) (fun c13 => ?_)
    · skip
      refine lv_iconst (v := 0) hx hb dX6_isValue_20 (by decide) ?_
      exact hx_zret S X hr hlk (Nat.le_of_ble_eq_true rfl) (Nat.le_of_ble_eq_true rfl) (by decide) ⟨isB_f (fun q => absurd ((lc_gt _ _).mp c13) (Int64.not_lt.mpr q.2)) rfl, rfl⟩ dX6_isValue_21
    · skip
      refine lv_iconst (v := 1) hx hb dX6_isValue_16 (by decide) ?_
      refine lv_goto (tgt := 21) hx hb dX6_isValue_17 (by decide) ?_
      exact hx_zret S X hr hlk (Nat.le_of_ble_eq_true rfl) (Nat.le_of_ble_eq_true rfl) (by decide) ⟨isB_t ⟨Int64.not_lt.mp (fun q => c5 ((lc_lt _ _).mpr q)), Int64.not_lt.mp (fun q => c13 ((lc_gt _ _).mpr q))⟩ rfl, rfl⟩ dX6_isValue_21

set_option maxRecDepth 100000 in
set_option maxHeartbeats 4000000 in
theorem c_X6_contains (l : Launch) (G : hG) (wd : va_W) (set x : Int32)  : hMi l G yX6_contains wsX6_contains ({ frames := 1, cells := 0, slots := 0, locals := 20 } : Room) wd [.int (set), .int (x)] (fun r w => isB r (hasF set x) ∧ w = wd) := by
  refine hMi.of (cc := cX6_contains) (maxL := 2) (some .boolean) RX6 rfl (by decide +kernel) rfl (Nat.le_of_ble_eq_true rfl) ?_
  intro p e s m args below meth c S hr hlk X ls hl
  have hx := S.1
  have hb := S.2.1
  have hown := S.2.2.2.1
  have hts := S.2.2.2.2
  have hl : lv_has ls 2 [(0, .int (set)), (1, .int (x))] := hl
  refine lv_iload_n hx hb dX6_contains_0 rfl (lv_at hl 1 rfl) ?_
  refine hx_Si (rest := []) S X (c_X6_isField l G _ (x)) gX6_contains_X6_isField rfl (n := 1) (by decide +kernel) rfl ⟨(Nat.le_of_ble_eq_true rfl), (Nat.le_of_ble_eq_true rfl)⟩ hl.1 rfl (Nat.le_of_ble_eq_true rfl) dX6_contains_1 ⟨(Nat.le_of_ble_eq_true rfl), (Nat.le_of_ble_eq_true rfl)⟩ (fun r wd1 H locs hp X => ?_)
  obtain ⟨hr1, rfl⟩ := hp
  by_cases h1 : isF (x)
  · skip
    refine hx_ei (hr1.1 h1) ?_
    refine lv_if_eq (tgt := 20) hx hb dX6_contains_4 (by decide) (fun c9 => absurd c9 (by decide)) (fun _ => ?_)
    refine lv_iload_n hx hb dX6_contains_7 rfl (lv_at hl 0 rfl) ?_
    refine lv_iload_n hx hb dX6_contains_8 rfl (lv_at hl 1 rfl) ?_
    refine lv_ishr hx hb dX6_contains_9 ?_
    refine lv_iconst (v := 1) hx hb dX6_contains_10 (by decide) ?_
    refine lv_iand hx hb dX6_contains_11 ?_
    refine lv_iconst (v := 1) hx hb dX6_contains_12 (by decide) ?_
    refine lv_icmp_ne (tgt := 20) hx hb dX6_contains_13 (by decide) (fun c13 => ?_) (fun c13 => ?_)
    · skip
      refine lv_iconst (v := 0) hx hb dX6_contains_20 (by decide) ?_
      exact hx_zret S X hr hlk (Nat.le_of_ble_eq_true rfl) (Nat.le_of_ble_eq_true rfl) (by decide) ⟨isB_f (fun q => c13 q.2) rfl, rfl⟩ dX6_contains_21
    · skip
      refine lv_iconst (v := 1) hx hb dX6_contains_16 (by decide) ?_
      refine lv_goto (tgt := 21) hx hb dX6_contains_17 (by decide) ?_
      exact hx_zret S X hr hlk (Nat.le_of_ble_eq_true rfl) (Nat.le_of_ble_eq_true rfl) (by decide) ⟨isB_t ⟨h1, c13⟩ rfl, rfl⟩ dX6_contains_21
  · skip
    refine hx_ei (hr1.2 h1) ?_
    refine lv_if_eq (tgt := 20) hx hb dX6_contains_4 (by decide) (fun _ => ?_) (fun c9 => absurd (by decide) c9)
    refine lv_iconst (v := 0) hx hb dX6_contains_20 (by decide) ?_
    exact hx_zret S X hr hlk (Nat.le_of_ble_eq_true rfl) (Nat.le_of_ble_eq_true rfl) (by decide) ⟨isB_f (fun q => h1 q.1) rfl, rfl⟩ dX6_contains_21

set_option maxRecDepth 100000 in
set_option maxHeartbeats 4000000 in
theorem c_X4_put (l : Launch) (G : hG) (L : List Nat) (f : Nat → va_E) (vr t : Nat) (row : Nat → Int32) (x : Int64) (mv : vr ∈ L) (fv : f vr = hAI G 8 (row)) (ht : t < 8) : hMi l G yX4_put wsX4_put ({ frames := 1, cells := 0, slots := 0, locals := 21 } : Room) (va_pl L f) [.ref (vr), .int (nI (t)), .long (x)] (fun r w => isB r ((putX row t x).1 = true) ∧ w = va_pl L (va_up f vr (hAI G 8 (putX row t x).2))) := by
  refine hMi.of (cc := cX4_put) (maxL := 4) (some .boolean) RX4 rfl (by decide +kernel) rfl (Nat.le_of_ble_eq_true rfl) ?_
  intro p e s m args below meth c S hr hlk X ls hl
  have hx := S.1
  have hb := S.2.1
  have hown := S.2.2.2.1
  have hts := S.2.2.2.2
  have hl : lv_has ls 4 [(0, .ref (vr)), (1, .int (nI (t))), (2, .long (x))] := hl
  refine lv_iload_n hx hb dX4_put_0 rfl (lv_at hl 1 rfl) ?_
  refine hx_SNi (rest := []) S X (c_X6_isField l G _ (nI (t))) (host := RX6) (by decide +kernel) gX4_put_X6_isField_n23 (by decide +kernel) (by decide +kernel) rfl (n := 1) (by decide +kernel) rfl ⟨(Nat.le_of_ble_eq_true rfl), (Nat.le_of_ble_eq_true rfl)⟩ hl.1 rfl (Nat.le_of_ble_eq_true rfl) dX4_put_1 ⟨(Nat.le_of_ble_eq_true rfl), (Nat.le_of_ble_eq_true rfl)⟩ (fun r wd1 H locs hp X => ?_)
  obtain ⟨hr1, rfl⟩ := hp
  refine hx_ei (hr1.1 ⟨t, ht, rfl⟩) ?_
  refine lv_if_eq (tgt := 14) hx hb dX4_put_4 (by decide) (fun c9 => absurd c9 (by decide)) (fun _ => ?_)
  refine lv_lload_n hx hb dX4_put_7 rfl (lv_at hl 2 rfl) ?_
  refine hx_SNi (rest := []) S X (c_X6_isValue l G _ (x)) (host := RX6) (by decide +kernel) gX4_put_X6_isValue_n29 (by decide +kernel) (by decide +kernel) rfl (n := 1) (by decide +kernel) rfl ⟨(Nat.le_of_ble_eq_true rfl), (Nat.le_of_ble_eq_true rfl)⟩ hl.1 rfl (Nat.le_of_ble_eq_true rfl) dX4_put_8 ⟨(Nat.le_of_ble_eq_true rfl), (Nat.le_of_ble_eq_true rfl)⟩ (fun r wd1 H locs hp X => ?_)
  obtain ⟨hr8, rfl⟩ := hp
  by_cases h8 : isVL (x)
  · skip
    refine hx_ei (hr8.1 h8) ?_
    refine lv_if_ne (tgt := 16) hx hb dX4_put_11 (by decide) (fun _ => ?_) (fun c9 => absurd c9 (by decide))
    refine lv_aload_n hx hb dX4_put_16 rfl (lv_at hl 0 rfl) ?_
    refine lv_iload_n hx hb dX4_put_17 rfl (lv_at hl 1 rfl) ?_
    refine lv_lload_n hx hb dX4_put_18 rfl (lv_at hl 2 rfl) ?_
    refine lv_l2i (v := (x : Int64).toInt32) hx hb dX4_put_19 rfl ?_
    refine xp_ist S X mv fv (j := t) (by omega) (by decide) (x := (x : Int64).toInt32) dX4_put_20 (fun H locs X => ?_)
    have k1 : (va_up f (vr) (hAI G 8 (upd (row) (t) ((x : Int64).toInt32)))) (vr) = hAI G 8 (upd (row) (t) ((x : Int64).toInt32)) := va_up_s _ _ _
    refine lv_iconst (v := 1) hx hb dX4_put_21 (by decide) ?_
    exact hx_zret S X hr hlk (Nat.le_of_ble_eq_true rfl) (Nat.le_of_ble_eq_true rfl) (by decide) ⟨by rw [putX, wif_t h8]; exact isB_t rfl rfl, by rw [putX, wif_t h8]⟩ dX4_put_22
  · skip
    refine hx_ei (hr8.2 h8) ?_
    refine lv_if_ne (tgt := 16) hx hb dX4_put_11 (by decide) (fun c9 => absurd (by decide) c9) (fun _ => ?_)
    refine lv_iconst (v := 0) hx hb dX4_put_14 (by decide) ?_
    exact hx_zret S X hr hlk (Nat.le_of_ble_eq_true rfl) (Nat.le_of_ble_eq_true rfl) (by decide) ⟨by rw [putX, wif_f h8]; exact isB_f (by simp) rfl, by rw [putX, wif_f h8, va_up_id fv]⟩ dX4_put_15

set_option maxRecDepth 100000 in
set_option maxHeartbeats 4000000 in
theorem c_X4_applyTo (l : Launch) (G : hG) (L : List Nat) (f : Nat → va_E) (h0 vr : Nat) (ka fa oa : Int32) (row : Nat → Int32) (m0 : h0 ∈ L) (f0 : f h0 = .inr (4, [.int (ka), .int (fa), .int (oa)])) (mv : vr ∈ L) (fv : f vr = hAI G 8 (row)) (hok : okSt ka fa oa) : hMi l G yX4_applyTo wsX4_applyTo ({ frames := 2, cells := 0, slots := 0, locals := 44 } : Room) (va_pl L f) [.ref (h0), .ref (vr)] (fun r w => isB r ((stepX ka fa oa row).1 = true) ∧ w = va_pl L (va_up f vr (hAI G 8 (stepX ka fa oa row).2))) := by
  refine hMi.of (cc := cX4_applyTo) (maxL := 2) (some .boolean) RX4 rfl (by decide +kernel) rfl (Nat.le_of_ble_eq_true rfl) ?_
  intro p e s m args below meth c S hr hlk X ls hl
  have hx := S.1
  have hb := S.2.1
  have hown := S.2.2.2.1
  have hts := S.2.2.2.2
  have hl : lv_has ls 2 [(0, .ref (h0)), (1, .ref (vr))] := hl
  have hin4 : ∀ w ∈ wsX40, w ∈ wsX4_applyTo := by decide +kernel
  obtain ⟨⟨a, ha8, rfl⟩, hk⟩ := hok
  rcases hk with ⟨rfl, hbv⟩ | rfl | ⟨rfl, b, hb8, rfl⟩ | ⟨rfl, hbv⟩ | ⟨rfl, b, hb8, rfl⟩
  · skip
    have ca : cN (nI a) = a := nI_clamp (by omega)
    refine lv_aload_n hx hb dX4_applyTo_0 rfl (lv_at hl 0 rfl) ?_
    refine xp_get S X (ci := 4) m0 f0 rfl hin4 0 (by decide) (by decide +kernel) rfl dX4_applyTo_1 ?_
    refine lv_tableIn (off := 36) (tgt := 40) hx hb dX4_applyTo_4 (by decide) (by decide) (by decide) (by decide) ?_
    refine lv_aload_n hx hb dX4_applyTo_40 rfl (lv_at hl 1 rfl) ?_
    refine lv_aload_n hx hb dX4_applyTo_41 rfl (lv_at hl 0 rfl) ?_
    refine xp_get S X (ci := 4) m0 f0 rfl hin4 1 (by decide) (by decide +kernel) rfl dX4_applyTo_42 ?_
    refine lv_aload_n hx hb dX4_applyTo_45 rfl (lv_at hl 0 rfl) ?_
    refine xp_get S X (ci := 4) m0 f0 rfl hin4 2 (by decide) (by decide +kernel) rfl dX4_applyTo_46 ?_
    refine lv_i2l (v := (oa : Int32).toInt64) hx hb dX4_applyTo_49 rfl ?_
    refine hx_Si (rest := []) S X (c_X4_put l G L f (vr) (a) (row) ((oa : Int32).toInt64) mv fv (by omega)) gX4_applyTo_X4_put rfl (n := 3) (by decide +kernel) rfl ⟨(Nat.le_of_ble_eq_true rfl), (Nat.le_of_ble_eq_true rfl)⟩ hl.1 rfl (Nat.le_of_ble_eq_true rfl) dX4_applyTo_50 ⟨(Nat.le_of_ble_eq_true rfl), (Nat.le_of_ble_eq_true rfl)⟩ (fun r wd1 H locs hp X => ?_)
    obtain ⟨hr50, rfl⟩ := hp
    have k1 : (va_up f (vr) (hAI G 8 ((putX (row) (a) ((oa : Int32).toInt64)).2))) (h0) = .inr (4, [.int ((0 : Int32)), .int (nI (a)), .int (oa)]) := up_k fv f0 (by simp)
    have k2 : (va_up f (vr) (hAI G 8 ((putX (row) (a) ((oa : Int32).toInt64)).2))) (vr) = hAI G 8 ((putX (row) (a) ((oa : Int32).toInt64)).2) := va_up_s _ _ _
    exact hx_zret S X hr hlk (Nat.le_of_ble_eq_true rfl) (Nat.le_of_ble_eq_true rfl) (by first | decide | exact isB_nar (by assumption)) ⟨by simpa [stepX, ca] using hr50, by simp [stepX, ca]⟩ dX4_applyTo_53
  · skip
    have ca : cN (nI a) = a := nI_clamp (by omega)
    refine lv_aload_n hx hb dX4_applyTo_0 rfl (lv_at hl 0 rfl) ?_
    refine xp_get S X (ci := 4) m0 f0 rfl hin4 0 (by decide) (by decide +kernel) rfl dX4_applyTo_1 ?_
    refine lv_tableIn (off := 112) (tgt := 116) hx hb dX4_applyTo_4 (by decide) (by decide) (by decide) (by decide) ?_
    refine lv_iconst (v := 1) hx hb dX4_applyTo_116 (by decide) ?_
    exact hx_zret S X hr hlk (Nat.le_of_ble_eq_true rfl) (Nat.le_of_ble_eq_true rfl) (by first | decide | exact isB_nar (by assumption)) ⟨isB_t (by simp [stepX]) rfl, by simp [stepX]; rw [va_up_id fv]⟩ dX4_applyTo_117
  · skip
    have ca : cN (nI a) = a := nI_clamp (by omega)
    have cb : cN (nI b) = b := nI_clamp (by omega)
    refine lv_aload_n hx hb dX4_applyTo_0 rfl (lv_at hl 0 rfl) ?_
    refine xp_get S X (ci := 4) m0 f0 rfl hin4 0 (by decide) (by decide +kernel) rfl dX4_applyTo_1 ?_
    refine lv_tableIn (off := 50) (tgt := 54) hx hb dX4_applyTo_4 (by decide) (by decide) (by decide) (by decide) ?_
    refine lv_aload_n hx hb dX4_applyTo_54 rfl (lv_at hl 1 rfl) ?_
    refine lv_aload_n hx hb dX4_applyTo_55 rfl (lv_at hl 0 rfl) ?_
    refine xp_get S X (ci := 4) m0 f0 rfl hin4 2 (by decide) (by decide +kernel) rfl dX4_applyTo_56 ?_
    refine lv_aload_n hx hb dX4_applyTo_59 rfl (lv_at hl 1 rfl) ?_
    refine lv_aload_n hx hb dX4_applyTo_60 rfl (lv_at hl 0 rfl) ?_
    refine xp_get S X (ci := 4) m0 f0 rfl hin4 1 (by decide) (by decide +kernel) rfl dX4_applyTo_61 ?_
    refine xp_ild S X mv fv (j := a) (by omega) (by decide) (x := row (a)) (rfl) dX4_applyTo_64 ?_
    refine lv_i2l (v := (row (a) : Int32).toInt64) hx hb dX4_applyTo_65 rfl ?_
    refine hx_Si (rest := []) S X (c_X4_put l G L f (vr) (b) (row) ((row (a) : Int32).toInt64) mv fv (by omega)) gX4_applyTo_X4_put rfl (n := 3) (by decide +kernel) rfl ⟨(Nat.le_of_ble_eq_true rfl), (Nat.le_of_ble_eq_true rfl)⟩ hl.1 rfl (Nat.le_of_ble_eq_true rfl) dX4_applyTo_66 ⟨(Nat.le_of_ble_eq_true rfl), (Nat.le_of_ble_eq_true rfl)⟩ (fun r wd1 H locs hp X => ?_)
    obtain ⟨hr66, rfl⟩ := hp
    have k3 : (va_up f (vr) (hAI G 8 ((putX (row) (b) ((row (a) : Int32).toInt64)).2))) (h0) = .inr (4, [.int ((2 : Int32)), .int (nI (a)), .int (nI (b))]) := up_k fv f0 (by simp)
    have k4 : (va_up f (vr) (hAI G 8 ((putX (row) (b) ((row (a) : Int32).toInt64)).2))) (vr) = hAI G 8 ((putX (row) (b) ((row (a) : Int32).toInt64)).2) := va_up_s _ _ _
    exact hx_zret S X hr hlk (Nat.le_of_ble_eq_true rfl) (Nat.le_of_ble_eq_true rfl) (by first | decide | exact isB_nar (by assumption)) ⟨by simpa [stepX, ca, cb] using hr66, by simp [stepX, ca, cb]⟩ dX4_applyTo_69
  · skip
    have ca : cN (nI a) = a := nI_clamp (by omega)
    refine lv_aload_n hx hb dX4_applyTo_0 rfl (lv_at hl 0 rfl) ?_
    refine xp_get S X (ci := 4) m0 f0 rfl hin4 0 (by decide) (by decide +kernel) rfl dX4_applyTo_1 ?_
    refine lv_tableIn (off := 66) (tgt := 70) hx hb dX4_applyTo_4 (by decide) (by decide) (by decide) (by decide) ?_
    refine lv_aload_n hx hb dX4_applyTo_70 rfl (lv_at hl 1 rfl) ?_
    refine lv_aload_n hx hb dX4_applyTo_71 rfl (lv_at hl 0 rfl) ?_
    refine xp_get S X (ci := 4) m0 f0 rfl hin4 1 (by decide) (by decide +kernel) rfl dX4_applyTo_72 ?_
    refine lv_aload_n hx hb dX4_applyTo_75 rfl (lv_at hl 1 rfl) ?_
    refine lv_aload_n hx hb dX4_applyTo_76 rfl (lv_at hl 0 rfl) ?_
    refine xp_get S X (ci := 4) m0 f0 rfl hin4 1 (by decide) (by decide +kernel) rfl dX4_applyTo_77 ?_
    refine xp_ild S X mv fv (j := a) (by omega) (by decide) (x := row (a)) (rfl) dX4_applyTo_80 ?_
    refine lv_i2l (v := (row (a) : Int32).toInt64) hx hb dX4_applyTo_81 rfl ?_
    refine lv_aload_n hx hb dX4_applyTo_82 rfl (lv_at hl 0 rfl) ?_
    refine xp_get S X (ci := 4) m0 f0 rfl hin4 2 (by decide) (by decide +kernel) rfl dX4_applyTo_83 ?_
    refine lv_i2l (v := (oa : Int32).toInt64) hx hb dX4_applyTo_86 rfl ?_
    refine lv_lmul hx hb dX4_applyTo_87 ?_
    refine hx_Si (rest := []) S X (c_X4_put l G L f (vr) (a) (row) (((row (a) : Int32).toInt64) * ((oa : Int32).toInt64)) mv fv (by omega)) gX4_applyTo_X4_put rfl (n := 3) (by decide +kernel) rfl ⟨(Nat.le_of_ble_eq_true rfl), (Nat.le_of_ble_eq_true rfl)⟩ hl.1 rfl (Nat.le_of_ble_eq_true rfl) dX4_applyTo_88 ⟨(Nat.le_of_ble_eq_true rfl), (Nat.le_of_ble_eq_true rfl)⟩ (fun r wd1 H locs hp X => ?_)
    obtain ⟨hr88, rfl⟩ := hp
    have k5 : (va_up f (vr) (hAI G 8 ((putX (row) (a) (((row (a) : Int32).toInt64) * ((oa : Int32).toInt64))).2))) (h0) = .inr (4, [.int ((3 : Int32)), .int (nI (a)), .int (oa)]) := up_k fv f0 (by simp)
    have k6 : (va_up f (vr) (hAI G 8 ((putX (row) (a) (((row (a) : Int32).toInt64) * ((oa : Int32).toInt64))).2))) (vr) = hAI G 8 ((putX (row) (a) (((row (a) : Int32).toInt64) * ((oa : Int32).toInt64))).2) := va_up_s _ _ _
    exact hx_zret S X hr hlk (Nat.le_of_ble_eq_true rfl) (Nat.le_of_ble_eq_true rfl) (by first | decide | exact isB_nar (by assumption)) ⟨by simpa [stepX, ca] using hr88, by simp [stepX, ca]⟩ dX4_applyTo_91
  · skip
    have ca : cN (nI a) = a := nI_clamp (by omega)
    have cb : cN (nI b) = b := nI_clamp (by omega)
    refine lv_aload_n hx hb dX4_applyTo_0 rfl (lv_at hl 0 rfl) ?_
    refine xp_get S X (ci := 4) m0 f0 rfl hin4 0 (by decide) (by decide +kernel) rfl dX4_applyTo_1 ?_
    refine lv_tableIn (off := 88) (tgt := 92) hx hb dX4_applyTo_4 (by decide) (by decide) (by decide) (by decide) ?_
    refine lv_aload_n hx hb dX4_applyTo_92 rfl (lv_at hl 1 rfl) ?_
    refine lv_aload_n hx hb dX4_applyTo_93 rfl (lv_at hl 0 rfl) ?_
    refine xp_get S X (ci := 4) m0 f0 rfl hin4 2 (by decide) (by decide +kernel) rfl dX4_applyTo_94 ?_
    refine lv_aload_n hx hb dX4_applyTo_97 rfl (lv_at hl 1 rfl) ?_
    refine lv_aload_n hx hb dX4_applyTo_98 rfl (lv_at hl 0 rfl) ?_
    refine xp_get S X (ci := 4) m0 f0 rfl hin4 2 (by decide) (by decide +kernel) rfl dX4_applyTo_99 ?_
    refine xp_ild S X mv fv (j := b) (by omega) (by decide) (x := row (b)) (rfl) dX4_applyTo_102 ?_
    refine lv_i2l (v := (row (b) : Int32).toInt64) hx hb dX4_applyTo_103 rfl ?_
    refine lv_aload_n hx hb dX4_applyTo_104 rfl (lv_at hl 1 rfl) ?_
    refine lv_aload_n hx hb dX4_applyTo_105 rfl (lv_at hl 0 rfl) ?_
    refine xp_get S X (ci := 4) m0 f0 rfl hin4 1 (by decide) (by decide +kernel) rfl dX4_applyTo_106 ?_
    refine xp_ild S X mv fv (j := a) (by omega) (by decide) (x := row (a)) (rfl) dX4_applyTo_109 ?_
    refine lv_i2l (v := (row (a) : Int32).toInt64) hx hb dX4_applyTo_110 rfl ?_
    refine lv_ladd hx hb dX4_applyTo_111 ?_
    refine hx_Si (rest := []) S X (c_X4_put l G L f (vr) (b) (row) (((row (b) : Int32).toInt64) + ((row (a) : Int32).toInt64)) mv fv (by omega)) gX4_applyTo_X4_put rfl (n := 3) (by decide +kernel) rfl ⟨(Nat.le_of_ble_eq_true rfl), (Nat.le_of_ble_eq_true rfl)⟩ hl.1 rfl (Nat.le_of_ble_eq_true rfl) dX4_applyTo_112 ⟨(Nat.le_of_ble_eq_true rfl), (Nat.le_of_ble_eq_true rfl)⟩ (fun r wd1 H locs hp X => ?_)
    obtain ⟨hr112, rfl⟩ := hp
    have k7 : (va_up f (vr) (hAI G 8 ((putX (row) (b) (((row (b) : Int32).toInt64) + ((row (a) : Int32).toInt64))).2))) (h0) = .inr (4, [.int ((4 : Int32)), .int (nI (a)), .int (nI (b))]) := up_k fv f0 (by simp)
    have k8 : (va_up f (vr) (hAI G 8 ((putX (row) (b) (((row (b) : Int32).toInt64) + ((row (a) : Int32).toInt64))).2))) (vr) = hAI G 8 ((putX (row) (b) (((row (b) : Int32).toInt64) + ((row (a) : Int32).toInt64))).2) := va_up_s _ _ _
    exact hx_zret S X hr hlk (Nat.le_of_ble_eq_true rfl) (Nat.le_of_ble_eq_true rfl) (by first | decide | exact isB_nar (by assumption)) ⟨by simpa [stepX, ca, cb] using hr112, by simp [stepX, ca, cb]⟩ dX4_applyTo_115
