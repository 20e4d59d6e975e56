/-- the making of the eight converters: i of them stand -/
def chI (G : hG) (L0 : List Nat) (f0 : Nat → va_E) (cva : Nat) (L1 : List Nat) (f1 : Nat → va_E) (gc : Nat → Option Nat) (cv sa : Nat → Nat) (i : Nat) : Prop :=
  (∀ a, a ∈ L0 → a ∈ L1) ∧ (∀ a, a ∈ L0 → a ≠ cva → f1 a = f0 a) ∧ f1 cva = hAQ G 4 8 gc ∧
  (∀ v, v < i → gc v = some (cv v) ∧ (cv v ∈ L1 ∧ cv v ∉ L0 ∧ f1 (cv v) = .inr (2, [.ref (sa v), .int 0])) ∧ (sa v ∈ L1 ∧ sa v ∉ L0 ∧ f1 (sa v) = hAQ G 6 6 (fun _ => none))) ∧
  (∀ v u, v < i → u < i → (cv v = cv u → v = u) ∧ (sa v = sa u → v = u))
def chN (G : hG) (L : List Nat) (f : Nat → va_E) (h0 : Nat) (ty x : Int32) (w : va_W) : Prop :=
  ∃ (L1 : List Nat) (f1 : Nat → va_E) (fsa cva : Nat) (gc : Nat → Option Nat) (cv sa : Nat → Nat), w = va_pl L1 f1 ∧ (∀ a, a ∈ L → a ∈ L1) ∧ (∀ a, a ∈ L → a ≠ h0 → f1 a = f a) ∧ f1 h0 = .inr (1, [.int ty, .ref fsa, .ref cva, .int 0, .int 0]) ∧ (fsa ∈ L1 ∧ fsa ∉ L ∧ f1 fsa = hAI G 8 (upd (fun _ => 0) 0 x)) ∧ (cva ∈ L1 ∧ cva ∉ L ∧ f1 cva = hAQ G 4 8 gc) ∧
    (∀ v, v < 8 → gc v = some (cv v) ∧ (cv v ∈ L1 ∧ cv v ∉ L ∧ f1 (cv v) = .inr (2, [.ref (sa v), .int 0])) ∧ (sa v ∈ L1 ∧ sa v ∉ L ∧ f1 (sa v) = hAQ G 6 6 (fun _ => none))) ∧
    (∀ v u, v < 8 → u < 8 → (cv v = cv u → v = u) ∧ (sa v = sa u → v = u))
theorem chI_step {G : hG} {L0 : List Nat} {f0 : Nat → va_E} {cva : Nat} {L1 : List Nat} {f1 : Nat → va_E} {gc : Nat → Option Nat} {cv sa : Nat → Nat} {i q q2 : Nat} (h : chI G L0 f0 cva L1 f1 gc cv sa i) (hc : cva ∈ L0) (hq : q ∉ L1) (hq2 : q2 ∉ L1 ++ [q]) :
    chI G L0 f0 cva ((L1 ++ [q]) ++ [q2]) (va_up (va_up (va_up (va_up f1 q (.inr (2, [.null, .int 0]))) q2 (hAQ G 6 6 (fun _ => none))) q (.inr (2, [.ref q2, .int 0]))) cva (hAQ G 4 8 (va_up gc i (some q)))) (va_up gc i (some q)) (va_up cv i q) (va_up sa i q2) (i + 1) := by
  obtain ⟨h1, h2, h3, h4, h5⟩ := h
  have hq20 : q2 ∉ L1 := fun z => hq2 (List.mem_append_left _ z)
  have hne : q2 ≠ q := fun z => hq2 (List.mem_append_right _ (by rw [z]; exact List.mem_singleton.mpr rfl))
  have hqc : cva ≠ q := fun z => hq (z ▸ h1 _ hc)
  have hq2c : cva ≠ q2 := fun z => hq20 (z ▸ h1 _ hc)
  have up : ∀ a, a ∈ L1 → a ≠ cva → va_up (va_up (va_up (va_up f1 q (.inr (2, [.null, .int 0]))) q2 (hAQ G 6 6 (fun _ => none))) q (.inr (2, [.ref q2, .int 0]))) cva (hAQ G 4 8 (va_up gc i (some q))) a = f1 a := fun a ha hn => by
    rw [va_up_n _ _ hn, va_up_n _ _ (show a ≠ q from fun z => hq (z ▸ ha)), va_up_n _ _ (show a ≠ q2 from fun z => hq20 (z ▸ ha)), va_up_n _ _ (show a ≠ q from fun z => hq (z ▸ ha))]
  refine ⟨fun a ha => List.mem_append_left _ (List.mem_append_left _ (h1 a ha)), fun a ha hn => by rw [up a (h1 a ha) hn]; exact h2 a ha hn, va_up_s _ _ _, fun v hv => ?_, fun v u hv hu => ?_⟩
  · by_cases e : v = i
    · subst e
      rw [va_up_s, va_up_s, va_up_s]
      refine ⟨rfl, ⟨List.mem_append_left _ (List.mem_append_right _ (List.mem_singleton.mpr rfl)), fun z => hq (h1 _ z), ?_⟩, ⟨List.mem_append_right _ (List.mem_singleton.mpr rfl), fun z => hq20 (h1 _ z), ?_⟩⟩
      · rw [va_up_n _ _ (fun z => hqc z.symm), va_up_s]
      · rw [va_up_n _ _ (fun z => hq2c z.symm), va_up_n _ _ hne, va_up_s]
    · obtain ⟨g1, ⟨g2, g3, g4⟩, g5, g6, g7⟩ := h4 v (by omega)
      rw [va_up_n _ _ e, va_up_n _ _ e, va_up_n _ _ e]
      refine ⟨g1, ⟨List.mem_append_left _ (List.mem_append_left _ g2), g3, ?_⟩, ⟨List.mem_append_left _ (List.mem_append_left _ g5), g6, ?_⟩⟩
      · rw [up _ g2 (fun z => g3 (z ▸ hc))]; exact g4
      · rw [up _ g5 (fun z => g6 (z ▸ hc))]; exact g7
  · by_cases e : v = i <;> by_cases e2 : u = i
    · exact ⟨fun _ => by omega, fun _ => by omega⟩
    · obtain ⟨-, ⟨g2, -, -⟩, g5, -, -⟩ := h4 u (by omega)
      subst e
      rw [va_up_s, va_up_s, va_up_n _ _ e2, va_up_n _ _ e2]
      exact ⟨fun z => absurd (z ▸ g2) hq, fun z => absurd (z ▸ g5) hq20⟩
    · obtain ⟨-, ⟨g2, -, -⟩, g5, -, -⟩ := h4 v (by omega)
      subst e2
      rw [va_up_s, va_up_s, va_up_n _ _ e, va_up_n _ _ e]
      exact ⟨fun z => absurd (z ▸ g2) hq, fun z => absurd (z ▸ g5) hq20⟩
    · rw [va_up_n _ _ e, va_up_n _ _ e, va_up_n _ _ e2, va_up_n _ _ e2]
      exact h5 v u (by omega) (by omega)
set_option maxRecDepth 100000 in
set_option maxHeartbeats 4000000 in
theorem c_X1_init (l : Launch) (G : hG) (L : List Nat) (f : Nat → va_E) (h0 : Nat) (ty x : Int32) (m0 : h0 ∈ L) (f0 : f h0 = .inr (1, [.int ((0 : Int32)), .null, .null, .int ((0 : Int32)), .int ((0 : Int32))]))  : hMv l G yX1_init wsX1_init ({ frames := 2, cells := 18, slots := 80, locals := 40 } : Room) (va_pl L f) [.ref (h0), .int (ty), .int (x)] (fun w => chN G L f h0 ty x w) := by
  refine hMv.of (cc := cX1_init) (maxL := 4) none RX1 rfl (by decide +kernel) rfl (Nat.le_of_ble_eq_true rfl) ?_
  intro p e s m args below meth c S hr hlk hin X ls hl
  have hx := S.1
  have hb := S.2.1
  have hown := S.2.2.2.1
  have hts := S.2.2.2.2
  have hl : lv_has ls 4 [(0, .ref (h0)), (1, .int (ty)), (2, .int (x))] := hl
  have hin1 : ∀ w ∈ wsX10, w ∈ wsX1_init := by decide +kernel
  have hin2 : ∀ w ∈ wsX20, w ∈ wsX1_init := by decide +kernel
  refine lv_aload_n hx hb dX1_init_0 rfl (lv_at hl 0 rfl) ?_
  refine W.objInit hx hb hown (hts (Cond.methodLink RX1 3 objectInit) (by decide +kernel)) (hts (Cond.instanceMethod objectInit) (by decide +kernel)) (hts (Cond.code objectInit ⟨#[0xb1]⟩ 1 none) (by decide +kernel)) rfl (by rw [S.2.2.1]; exact hl.1) rfl dX1_init_1 (Nat.le_of_ble_eq_true rfl) (Nat.le_of_ble_eq_true rfl) ?_
  refine W.eq (g2 := F0 m 4 ls []) rfl ?_
  refine lv_aload_n hx hb dX1_init_4 rfl (lv_at hl 0 rfl) ?_
  refine lv_bipush (v := 8) hx hb dX1_init_5 (by decide) ?_
  refine xp_newI S X (by decide +kernel) (N' := 8) (by decide) (Nat.le_of_ble_eq_true rfl) (Nat.le_of_ble_eq_true rfl) dX1_init_7 (fun q1 H hq1 X => ?_)
  have k2 : (va_up f (q1) (hAI G 8 (fun _ => 0))) (h0) = .inr (1, [.int ((0 : Int32)), .null, .null, .int ((0 : Int32)), .int ((0 : Int32))]) := up_n f0 (fun q => hq1 (q ▸ m0))
  have k3 : (va_up f (q1) (hAI G 8 (fun _ => 0))) (q1) = hAI G 8 (fun _ => 0) := va_up_s _ _ _
  refine xp_putF S X (ci := 1) (fs2 := [.int ((0 : Int32)), .ref (q1), .null, .int ((0 : Int32)), .int ((0 : Int32))]) tyX1_ok nmX1 (List.mem_append_left _ m0) k2 rfl hin1 1 (by decide) (by decide +kernel) rfl hin rfl rfl rfl (Nat.le_of_ble_eq_true rfl) rfl dX1_init_9 (fun H locs X => ?_)
  have k4 : (va_up (va_up f (q1) (hAI G 8 (fun _ => 0))) (h0) (.inr (1, [.int ((0 : Int32)), .ref (q1), .null, .int ((0 : Int32)), .int ((0 : Int32))]))) (q1) = hAI G 8 (fun _ => 0) := up_k k2 k3 (by simp)
  have k5 : (va_up (va_up f (q1) (hAI G 8 (fun _ => 0))) (h0) (.inr (1, [.int ((0 : Int32)), .ref (q1), .null, .int ((0 : Int32)), .int ((0 : Int32))]))) (h0) = .inr (1, [.int ((0 : Int32)), .ref (q1), .null, .int ((0 : Int32)), .int ((0 : Int32))]) := va_up_s _ _ _
  refine lv_aload_n hx hb dX1_init_12 rfl (lv_at hl 0 rfl) ?_
  refine lv_bipush (v := 8) hx hb dX1_init_13 (by decide) ?_
  refine xp_newQ S X 4 (C := RX2) rfl (by decide +kernel) (by decide +kernel) (N' := 8) (by decide) (Nat.le_of_ble_eq_true rfl) (Nat.le_of_ble_eq_true rfl) dX1_init_15 (fun q6 H hq6 X => ?_)
  have k7 : (va_up (va_up (va_up f (q1) (hAI G 8 (fun _ => 0))) (h0) (.inr (1, [.int ((0 : Int32)), .ref (q1), .null, .int ((0 : Int32)), .int ((0 : Int32))]))) (q6) (hAQ G 4 8 (fun _ => none))) (q1) = hAI G 8 (fun _ => 0) := up_n k4 (fun q => hq6 (q ▸ (List.mem_append_right _ (List.mem_singleton.mpr rfl))))
  have k8 : (va_up (va_up (va_up f (q1) (hAI G 8 (fun _ => 0))) (h0) (.inr (1, [.int ((0 : Int32)), .ref (q1), .null, .int ((0 : Int32)), .int ((0 : Int32))]))) (q6) (hAQ G 4 8 (fun _ => none))) (h0) = .inr (1, [.int ((0 : Int32)), .ref (q1), .null, .int ((0 : Int32)), .int ((0 : Int32))]) := up_n k5 (fun q => hq6 (q ▸ (List.mem_append_left _ m0)))
  have k9 : (va_up (va_up (va_up f (q1) (hAI G 8 (fun _ => 0))) (h0) (.inr (1, [.int ((0 : Int32)), .ref (q1), .null, .int ((0 : Int32)), .int ((0 : Int32))]))) (q6) (hAQ G 4 8 (fun _ => none))) (q6) = hAQ G 4 8 (fun _ => none) := va_up_s _ _ _
  refine xp_putF S X (ci := 1) (fs2 := [.int ((0 : Int32)), .ref (q1), .ref (q6), .int ((0 : Int32)), .int ((0 : Int32))]) tyX1_ok nmX1 (List.mem_append_left _ (List.mem_append_left _ m0)) k8 rfl hin1 2 (by decide) (by decide +kernel) rfl hin rfl rfl rfl (Nat.le_of_ble_eq_true rfl) rfl dX1_init_18 (fun H locs X => ?_)
  have k10 : (va_up (va_up (va_up (va_up f (q1) (hAI G 8 (fun _ => 0))) (h0) (.inr (1, [.int ((0 : Int32)), .ref (q1), .null, .int ((0 : Int32)), .int ((0 : Int32))]))) (q6) (hAQ G 4 8 (fun _ => none))) (h0) (.inr (1, [.int ((0 : Int32)), .ref (q1), .ref (q6), .int ((0 : Int32)), .int ((0 : Int32))]))) (q1) = hAI G 8 (fun _ => 0) := up_k k8 k7 (by simp)
  have k11 : (va_up (va_up (va_up (va_up f (q1) (hAI G 8 (fun _ => 0))) (h0) (.inr (1, [.int ((0 : Int32)), .ref (q1), .null, .int ((0 : Int32)), .int ((0 : Int32))]))) (q6) (hAQ G 4 8 (fun _ => none))) (h0) (.inr (1, [.int ((0 : Int32)), .ref (q1), .ref (q6), .int ((0 : Int32)), .int ((0 : Int32))]))) (q6) = hAQ G 4 8 (fun _ => none) := up_k k8 k9 (by simp)
  have k12 : (va_up (va_up (va_up (va_up f (q1) (hAI G 8 (fun _ => 0))) (h0) (.inr (1, [.int ((0 : Int32)), .ref (q1), .null, .int ((0 : Int32)), .int ((0 : Int32))]))) (q6) (hAQ G 4 8 (fun _ => none))) (h0) (.inr (1, [.int ((0 : Int32)), .ref (q1), .ref (q6), .int ((0 : Int32)), .int ((0 : Int32))]))) (h0) = .inr (1, [.int ((0 : Int32)), .ref (q1), .ref (q6), .int ((0 : Int32)), .int ((0 : Int32))]) := va_up_s _ _ _
  refine lv_aload_n hx hb dX1_init_21 rfl (lv_at hl 0 rfl) ?_
  refine lv_iload_n hx hb dX1_init_22 rfl (lv_at hl 1 rfl) ?_
  refine xp_putF S X (ci := 1) (fs2 := [.int (ty), .ref (q1), .ref (q6), .int ((0 : Int32)), .int ((0 : Int32))]) tyX1_ok nmX1 (List.mem_append_left _ (List.mem_append_left _ m0)) k12 rfl hin1 0 (by decide) (by decide +kernel) rfl hin rfl rfl rfl (Nat.le_of_ble_eq_true rfl) rfl dX1_init_23 (fun H locs X => ?_)
  have k13 : (va_up (va_up (va_up (va_up (va_up f (q1) (hAI G 8 (fun _ => 0))) (h0) (.inr (1, [.int ((0 : Int32)), .ref (q1), .null, .int ((0 : Int32)), .int ((0 : Int32))]))) (q6) (hAQ G 4 8 (fun _ => none))) (h0) (.inr (1, [.int ((0 : Int32)), .ref (q1), .ref (q6), .int ((0 : Int32)), .int ((0 : Int32))]))) (h0) (.inr (1, [.int (ty), .ref (q1), .ref (q6), .int ((0 : Int32)), .int ((0 : Int32))]))) (q1) = hAI G 8 (fun _ => 0) := up_k k12 k10 (by simp)
  have k14 : (va_up (va_up (va_up (va_up (va_up f (q1) (hAI G 8 (fun _ => 0))) (h0) (.inr (1, [.int ((0 : Int32)), .ref (q1), .null, .int ((0 : Int32)), .int ((0 : Int32))]))) (q6) (hAQ G 4 8 (fun _ => none))) (h0) (.inr (1, [.int ((0 : Int32)), .ref (q1), .ref (q6), .int ((0 : Int32)), .int ((0 : Int32))]))) (h0) (.inr (1, [.int (ty), .ref (q1), .ref (q6), .int ((0 : Int32)), .int ((0 : Int32))]))) (q6) = hAQ G 4 8 (fun _ => none) := up_k k12 k11 (by simp)
  have k15 : (va_up (va_up (va_up (va_up (va_up f (q1) (hAI G 8 (fun _ => 0))) (h0) (.inr (1, [.int ((0 : Int32)), .ref (q1), .null, .int ((0 : Int32)), .int ((0 : Int32))]))) (q6) (hAQ G 4 8 (fun _ => none))) (h0) (.inr (1, [.int ((0 : Int32)), .ref (q1), .ref (q6), .int ((0 : Int32)), .int ((0 : Int32))]))) (h0) (.inr (1, [.int (ty), .ref (q1), .ref (q6), .int ((0 : Int32)), .int ((0 : Int32))]))) (h0) = .inr (1, [.int (ty), .ref (q1), .ref (q6), .int ((0 : Int32)), .int ((0 : Int32))]) := va_up_s _ _ _
  refine lv_aload_n hx hb dX1_init_26 rfl (lv_at hl 0 rfl) ?_
  refine xp_get S X (ci := 1) (List.mem_append_left _ (List.mem_append_left _ m0)) k15 rfl hin1 1 (by decide) (by decide +kernel) rfl dX1_init_27 ?_
  refine lv_iconst (v := 0) hx hb dX1_init_30 (by decide) ?_
  refine lv_iload_n hx hb dX1_init_31 rfl (lv_at hl 2 rfl) ?_
  refine xp_ist S X (List.mem_append_left _ (List.mem_append_right _ (List.mem_singleton.mpr rfl))) k13 (j := 0) (by omega) (by decide) (x := x) dX1_init_32 (fun H locs X => ?_)
  have k16 : (va_up (va_up (va_up (va_up (va_up (va_up f (q1) (hAI G 8 (fun _ => 0))) (h0) (.inr (1, [.int ((0 : Int32)), .ref (q1), .null, .int ((0 : Int32)), .int ((0 : Int32))]))) (q6) (hAQ G 4 8 (fun _ => none))) (h0) (.inr (1, [.int ((0 : Int32)), .ref (q1), .ref (q6), .int ((0 : Int32)), .int ((0 : Int32))]))) (h0) (.inr (1, [.int (ty), .ref (q1), .ref (q6), .int ((0 : Int32)), .int ((0 : Int32))]))) (q1) (hAI G 8 (upd (fun _ => 0) (0) (x)))) (q6) = hAQ G 4 8 (fun _ => none) := up_k k13 k14 (by simp)
  have k17 : (va_up (va_up (va_up (va_up (va_up (va_up f (q1) (hAI G 8 (fun _ => 0))) (h0) (.inr (1, [.int ((0 : Int32)), .ref (q1), .null, .int ((0 : Int32)), .int ((0 : Int32))]))) (q6) (hAQ G 4 8 (fun _ => none))) (h0) (.inr (1, [.int ((0 : Int32)), .ref (q1), .ref (q6), .int ((0 : Int32)), .int ((0 : Int32))]))) (h0) (.inr (1, [.int (ty), .ref (q1), .ref (q6), .int ((0 : Int32)), .int ((0 : Int32))]))) (q1) (hAI G 8 (upd (fun _ => 0) (0) (x)))) (h0) = .inr (1, [.int (ty), .ref (q1), .ref (q6), .int ((0 : Int32)), .int ((0 : Int32))]) := up_k k13 k15 (by simp)
  have k18 : (va_up (va_up (va_up (va_up (va_up (va_up f (q1) (hAI G 8 (fun _ => 0))) (h0) (.inr (1, [.int ((0 : Int32)), .ref (q1), .null, .int ((0 : Int32)), .int ((0 : Int32))]))) (q6) (hAQ G 4 8 (fun _ => none))) (h0) (.inr (1, [.int ((0 : Int32)), .ref (q1), .ref (q6), .int ((0 : Int32)), .int ((0 : Int32))]))) (h0) (.inr (1, [.int (ty), .ref (q1), .ref (q6), .int ((0 : Int32)), .int ((0 : Int32))]))) (q1) (hAI G 8 (upd (fun _ => 0) (0) (x)))) (q1) = hAI G 8 (upd (fun _ => 0) (0) (x)) := va_up_s _ _ _
  refine lv_iconst (v := 0) hx hb dX1_init_33 (by decide) ?_
  refine lv_istore_n (lv' := [(3, .int ((0 : Int32))), (0, .ref (h0)), (1, .int (ty)), (2, .int (x))]) hx hb dX1_init_34 rfl hl (by decide) rfl (fun ls hl => ?_)
  obtain ⟨L0, hL0⟩ : ∃ z, z = ((L ++ [q1]) ++ [q6]) := ⟨_, rfl⟩
  obtain ⟨f0, hf0⟩ : ∃ z, z = (va_up (va_up (va_up (va_up (va_up (va_up f (q1) (hAI G 8 (fun _ => 0))) (h0) (.inr (1, [.int ((0 : Int32)), .ref (q1), .null, .int ((0 : Int32)), .int ((0 : Int32))]))) (q6) (hAQ G 4 8 (fun _ => none))) (h0) (.inr (1, [.int ((0 : Int32)), .ref (q1), .ref (q6), .int ((0 : Int32)), .int ((0 : Int32))]))) (h0) (.inr (1, [.int (ty), .ref (q1), .ref (q6), .int ((0 : Int32)), .int ((0 : Int32))]))) (q1) (hAI G 8 (upd (fun _ => 0) (0) (x)))) := ⟨_, rfl⟩
  have zm0 : h0 ∈ L0 := by rw [hL0]; exact (List.mem_append_left _ (List.mem_append_left _ m0))
  have zf0 : f0 h0 = .inr (1, [.int (ty), .ref (q1), .ref (q6), .int ((0 : Int32)), .int ((0 : Int32))]) := by rw [hf0]; exact k17
  have zmf : q1 ∈ L0 := by rw [hL0]; exact (List.mem_append_left _ (List.mem_append_right _ (List.mem_singleton.mpr rfl)))
  have zff : f0 q1 = hAI G 8 (upd (fun _ => 0) (0) (x)) := by rw [hf0]; exact k18
  have zmc : q6 ∈ L0 := by rw [hL0]; exact (List.mem_append_right _ (List.mem_singleton.mpr rfl))
  have zfc : f0 q6 = hAQ G 4 8 (fun _ => none) := by rw [hf0]; exact k16
  have hsub : ∀ a, a ∈ L → a ∈ L0 := fun a ha => by rw [hL0]; exact List.mem_append_left _ (List.mem_append_left _ ha)
  have hqfL : q1 ∉ L := hq1
  have hqcL : q6 ∉ L := fun z => hq6 (List.mem_append_left _ z)
  have hold : ∀ a, a ∈ L → a ≠ h0 → f0 a = f a := fun a ha hn => by rw [hf0]; simp only [va_up_n _ _ hn, va_up_n _ _ (show a ≠ q1 from fun z => hqfL (z ▸ ha)), va_up_n _ _ (show a ≠ q6 from fun z => hqcL (z ▸ ha))]
  have h0c : h0 ≠ q6 := fun z => hqcL (z ▸ m0)
  have qfc : q1 ≠ q6 := fun z => by have h1 := zff; rw [z, zfc] at h1; exact absurd h1 (by simp)
  rw [← hL0, ← hf0] at X
  have loop : ∀ (n9 i : Nat) (L1 : List Nat) (f1 : Nat → va_E) (gc : Nat → Option Nat) (cv : Nat → Nat) (sa : Nat → Nat), i + n9 = 8 → chI G L0 f0 q6 L1 f1 gc cv sa i → ∀ (H : Heap) (locs : List Loc) (ls : Array Slot), hH G (va_A (va_pl L f) s.heap.size) s.heap s (va_pl L1 f1) H locs → lv_has ls 4 [(0, .ref (h0)), (3, .int (nI (i)))] → W p l e ({ frames := 2, cells := 18, slots := 80, locals := 40 } : Room) s m args below meth c H locs (2 + 2 * i) (16 + 8 * i) (MQ below (va_Qv (fun w => chN G L f h0 ty x w) (hB G (va_A (va_pl L f) s.heap.size)) (va_A (va_pl L f) s.heap.size)) args s 18 80 (va_A (va_pl L f) s.heap.size)) (F0 m 35 ls []) := by
    intro n9
    induction n9 with
    | zero =>
      intro i L1 f1 gc cv sa hi9 hv H locs ls X hl
      have hin : i = 8 := by omega
      refine lv_iload_n hx hb dX1_init_35 rfl (lv_at hl 1 rfl) ?_
      refine lv_bipush (v := 8) hx hb dX1_init_36 (by decide) ?_
      refine lv_icmp_ge (tgt := 60) hx hb dX1_init_38 (by decide) (fun _ => ?_) (fun c9 => absurd (nI_le (a := 8) (b := i) (by omega) (by omega)) c9)
      subst hin
      exact hx_vret S X hr hlk (Nat.le_of_ble_eq_true rfl) (Nat.le_of_ble_eq_true rfl) ⟨L1, f1, q1, q6, gc, cv, sa, rfl, fun a ha => hv.1 a (hsub a ha), fun a ha hn => by rw [hv.2.1 a (hsub a ha) (fun z => hqcL (z ▸ ha))]; exact hold a ha hn, (hv.2.1 _ zm0 h0c).trans zf0, ⟨hv.1 _ zmf, hqfL, (hv.2.1 _ zmf qfc).trans zff⟩, ⟨hv.1 _ zmc, hqcL, hv.2.2.1⟩, fun v h8 => by obtain ⟨g1, ⟨g2, g3, g4⟩, g5, g6, g7⟩ := hv.2.2.2.1 v h8; exact ⟨g1, ⟨g2, fun z => g3 (hsub _ z), g4⟩, g5, fun z => g6 (hsub _ z), g7⟩, hv.2.2.2.2⟩ dX1_init_60
    | succ n9 ih =>
      intro i L1 f1 gc cv sa hi9 hv H locs ls X hl
      have hin : i < 8 := by omega
      refine lv_iload_n hx hb dX1_init_35 rfl (lv_at hl 1 rfl) ?_
      refine lv_bipush (v := 8) hx hb dX1_init_36 (by decide) ?_
      refine lv_icmp_ge (tgt := 60) hx hb dX1_init_38 (by decide) (fun c9 => absurd c9 (nI_ge (a := i) (b := 8) (by omega) (by omega))) (fun _ => ?_)
      refine lv_aload_n hx hb dX1_init_41 rfl (lv_at hl 0 rfl) ?_
      refine xp_get S X (ci := 1) (hv.1 _ zm0) ((hv.2.1 _ zm0 h0c).trans zf0) rfl hin1 2 (by decide) (by decide +kernel) rfl dX1_init_42 ?_
      refine lv_iload_n hx hb dX1_init_45 rfl (lv_at hl 1 rfl) ?_
      refine xp_new S X (ci := 2) (fs := [.null, .int ((0 : Int32))]) tyX2_ok rfl hin2 (by decide +kernel) (by decide +kernel) (by decide +kernel) (fun j hj => by rcases (show j = 0 ∨ j = 1 by omega) with rfl | rfl <;> rfl) (by show 2 + 2 * i + 1 ≤ 18; omega) (by show 16 + 8 * i + 2 ≤ 80; omega) dX1_init_46 (fun q19 H hq19 X => ?_)
      have k20 : (va_up f1 (q19) (.inr (2, [.null, .int ((0 : Int32))]))) (h0) = .inr (1, [.int (ty), .ref (q1), .ref (q6), .int ((0 : Int32)), .int ((0 : Int32))]) := up_n ((hv.2.1 _ zm0 h0c).trans zf0) (fun q => hq19 (q ▸ (hv.1 _ zm0)))
      have k21 : (va_up f1 (q19) (.inr (2, [.null, .int ((0 : Int32))]))) (q6) = hAQ G 4 8 (gc) := up_n hv.2.2.1 (fun q => hq19 (q ▸ (hv.1 _ zmc)))
      have k22 : (va_up f1 (q19) (.inr (2, [.null, .int ((0 : Int32))]))) (q19) = .inr (2, [.null, .int ((0 : Int32))]) := va_up_s _ _ _
      refine lv_dup hx hb dX1_init_49 rfl ?_
      refine hx_INv (rest := [.ref (q19), .int (nI (i)), .ref (q6)]) S X (c_X2_init l G (L1 ++ [q19]) (va_up f1 (q19) (.inr (2, [.null, .int ((0 : Int32))]))) (q19) (List.mem_append_right _ (List.mem_singleton.mpr rfl)) k22) (host := RX6) (by decide +kernel) gX1_init_X2_init_n25 rfl (by decide +kernel) (by decide +kernel) rfl (n := 0) (by decide +kernel) rfl ⟨(Nat.le_of_ble_eq_true rfl), (Nat.le_of_ble_eq_true rfl)⟩ hl.1 rfl (Nat.le_of_ble_eq_true rfl) dX1_init_50 ⟨by show 2 + 2 * i + 1 + 1 ≤ 18; omega, by show 16 + 8 * i + 2 + 6 ≤ 80; omega⟩ (fun wd1 H locs hp X => ?_)
      obtain ⟨q23, hq23, rfl⟩ := hp
      have k24 : (va_up (va_up f1 (q19) (.inr (2, [.null, .int ((0 : Int32))]))) (q23) (hAQ G 6 6 (fun _ => none))) (h0) = .inr (1, [.int (ty), .ref (q1), .ref (q6), .int ((0 : Int32)), .int ((0 : Int32))]) := up_n k20 (fun q => hq23 (q ▸ (List.mem_append_left _ (hv.1 _ zm0))))
      have k25 : (va_up (va_up f1 (q19) (.inr (2, [.null, .int ((0 : Int32))]))) (q23) (hAQ G 6 6 (fun _ => none))) (q6) = hAQ G 4 8 (gc) := up_n k21 (fun q => hq23 (q ▸ (List.mem_append_left _ (hv.1 _ zmc))))
      have k26 : (va_up (va_up f1 (q19) (.inr (2, [.null, .int ((0 : Int32))]))) (q23) (hAQ G 6 6 (fun _ => none))) (q19) = .inr (2, [.null, .int ((0 : Int32))]) := up_n k22 (fun q => hq23 (q ▸ (List.mem_append_right _ (List.mem_singleton.mpr rfl))))
      have k27 : (va_up (va_up f1 (q19) (.inr (2, [.null, .int ((0 : Int32))]))) (q23) (hAQ G 6 6 (fun _ => none))) (q23) = hAQ G 6 6 (fun _ => none) := va_up_s _ _ _
      have k28 : (va_up (va_up (va_up f1 (q19) (.inr (2, [.null, .int ((0 : Int32))]))) (q23) (hAQ G 6 6 (fun _ => none))) (q19) (.inr (2, [.ref (q23), .int ((0 : Int32))]))) (h0) = .inr (1, [.int (ty), .ref (q1), .ref (q6), .int ((0 : Int32)), .int ((0 : Int32))]) := up_k k26 k24 (by simp)
      have k29 : (va_up (va_up (va_up f1 (q19) (.inr (2, [.null, .int ((0 : Int32))]))) (q23) (hAQ G 6 6 (fun _ => none))) (q19) (.inr (2, [.ref (q23), .int ((0 : Int32))]))) (q6) = hAQ G 4 8 (gc) := up_k k26 k25 (by simp)
      have k30 : (va_up (va_up (va_up f1 (q19) (.inr (2, [.null, .int ((0 : Int32))]))) (q23) (hAQ G 6 6 (fun _ => none))) (q19) (.inr (2, [.ref (q23), .int ((0 : Int32))]))) (q23) = hAQ G 6 6 (fun _ => none) := up_k k26 k27 (by simp)
      have k31 : (va_up (va_up (va_up f1 (q19) (.inr (2, [.null, .int ((0 : Int32))]))) (q23) (hAQ G 6 6 (fun _ => none))) (q19) (.inr (2, [.ref (q23), .int ((0 : Int32))]))) (q19) = .inr (2, [.ref (q23), .int ((0 : Int32))]) := va_up_s _ _ _
      refine xp_ast S X 4 (r := (RX2, TX2, 2)) rfl (List.mem_append_left _ (List.mem_append_left _ (hv.1 _ zmc))) k29 (List.mem_append_left _ (List.mem_append_right _ (List.mem_singleton.mpr rfl))) k31 rfl (j := i) (by omega) (by decide) dX1_init_53 (fun H locs X => ?_)
      have k32 : (va_up (va_up (va_up (va_up f1 (q19) (.inr (2, [.null, .int ((0 : Int32))]))) (q23) (hAQ G 6 6 (fun _ => none))) (q19) (.inr (2, [.ref (q23), .int ((0 : Int32))]))) (q6) (hAQ G 4 8 (va_up (gc) (i) (some (q19))))) (h0) = .inr (1, [.int (ty), .ref (q1), .ref (q6), .int ((0 : Int32)), .int ((0 : Int32))]) := up_k k29 k28 (by simp)
      have k33 : (va_up (va_up (va_up (va_up f1 (q19) (.inr (2, [.null, .int ((0 : Int32))]))) (q23) (hAQ G 6 6 (fun _ => none))) (q19) (.inr (2, [.ref (q23), .int ((0 : Int32))]))) (q6) (hAQ G 4 8 (va_up (gc) (i) (some (q19))))) (q23) = hAQ G 6 6 (fun _ => none) := up_k k29 k30 (by simp)
      have k34 : (va_up (va_up (va_up (va_up f1 (q19) (.inr (2, [.null, .int ((0 : Int32))]))) (q23) (hAQ G 6 6 (fun _ => none))) (q19) (.inr (2, [.ref (q23), .int ((0 : Int32))]))) (q6) (hAQ G 4 8 (va_up (gc) (i) (some (q19))))) (q19) = .inr (2, [.ref (q23), .int ((0 : Int32))]) := up_k k29 k31 (by simp)
      have k35 : (va_up (va_up (va_up (va_up f1 (q19) (.inr (2, [.null, .int ((0 : Int32))]))) (q23) (hAQ G 6 6 (fun _ => none))) (q19) (.inr (2, [.ref (q23), .int ((0 : Int32))]))) (q6) (hAQ G 4 8 (va_up (gc) (i) (some (q19))))) (q6) = hAQ G 4 8 (va_up (gc) (i) (some (q19))) := va_up_s _ _ _
      refine lv_iinc (v := nI (i + 1)) (lv' := [(3, .int (nI (i + 1))), (0, .ref (h0))]) hx hb dX1_init_54 hl (k := 1) rfl (nI_add (i) 1) (by decide) rfl (fun ls hl => ?_)
      refine lv_goto (tgt := 35) hx hb dX1_init_57 (by decide) ?_
      refine W.widen (k := 2 + 2 * (i + 1)) (n := 16 + 8 * (i + 1)) (by show 2 + 2 * i + 1 + 1 ≤ _; omega) (by show 16 + 8 * i + 2 + 6 ≤ _; omega) ?_
      exact ih (i + 1) _ _ _ _ _ (by omega) (chI_step hv zmc hq19 hq23) _ _ _ X (lv_sub hl [1, 0] rfl)
  refine W.widen (k := 2 + 2 * 0) (n := 16 + 8 * 0) (Nat.le_of_ble_eq_true rfl) (Nat.le_of_ble_eq_true rfl) ?_
  exact loop 8 0 L0 f0 _ (fun _ => 0) (fun _ => 0) (by omega) ⟨fun _ h => h, fun _ _ _ => rfl, zfc, fun v h => by omega, fun v u h => by omega⟩ _ _ _ X (lv_sub hl [1, 0] rfl)
