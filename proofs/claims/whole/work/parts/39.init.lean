set_option maxRecDepth 100000 in
set_option maxHeartbeats 4000000 in
theorem c_X7_init (l : Launch) (G : hG) (a0 : Nat)  : hMv l G yX7_init wsX7_init ({ frames := 1, cells := 10, slots := 2728, locals := 20 } : Room) [(a0, .inr (7, [.int 0, .null, .null, .null, .null, .null, .int 0, .null, .null, .null, .null, .null]))] [.ref (a0)] (fun w => ∃ ad : Nat → Nat, ad 0 = a0 ∧ w = mW G ad (fun _ _ => 0)) := by
  refine hMv.of (cc := cX7_init) (maxL := 1) none RX7 rfl (by decide +kernel) rfl (Nat.le_of_ble_eq_true rfl) ?_
  intro p e s m args below meth c S hr hlk hin X ls hl
  have hx := S.1
  have hb := S.2.1
  have hown := S.2.2.2.1
  have hts := S.2.2.2.2
  have hl : lv_has ls 1 [(0, .ref (a0))] := hl
  have hin7 : ∀ w ∈ wsX70, w ∈ wsX7_init := by decide +kernel
  refine lv_aload_n hx hb dX7_init_0 rfl (lv_at hl 0 rfl) ?_
  refine W.objInit hx hb hown (hts (Cond.methodLink RX7 1 objectInit) (by decide +kernel)) (hts (Cond.instanceMethod objectInit) (by decide +kernel)) (hts (Cond.code objectInit ⟨#[0xb1]⟩ 1 none) (by decide +kernel)) rfl (by rw [S.2.2.1]; exact hl.1) rfl dX7_init_1 (Nat.le_of_ble_eq_true rfl) (Nat.le_of_ble_eq_true rfl) ?_
  refine W.eq (g2 := F0 m 4 ls []) rfl ?_
  refine lv_aload_n hx hb dX7_init_4 rfl (lv_at hl 0 rfl) ?_
  refine lv_sipush (v := 972) hx hb dX7_init_5 (by decide) ?_
  refine hx_newa S X (ty := .int) 0 rfl rfl (by decide +kernel) (n := 972) (N' := 972) (a0 := (972, .inl (fun _ => 0))) (fun _ => rfl) (by decide) (by decide) (by decide) (Nat.le_of_ble_eq_true rfl) (Nat.le_of_ble_eq_true rfl) dX7_init_8 (fun q1 H X => ?_)
  have X : hH G (va_A [(a0, .inr (7, [.int 0, .null, .null, .null, .null, .null, .int 0, .null, .null, .null, .null, .null]))] s.heap.size) s.heap s [(a0, .inr (7, [.int 0, .null, .null, .null, .null, .null, .int 0, .null, .null, .null, .null, .null])), (q1, hAI G 972 (fun _ => 0))] H _ := X
  refine hx_putFL S X (ci := 7) tyX7_ok nmX7 0 rfl rfl hin7 1 (by decide) (by decide +kernel) rfl hin rfl rfl rfl (Nat.le_of_ble_eq_true rfl) dX7_init_10 (wd' := [(a0, .inr (7, [.int 0, .ref q1, .null, .null, .null, .null, .int 0, .null, .null, .null, .null, .null])), (q1, hAI G 972 (fun _ => 0))]) rfl (fun H locs X => ?_)
  refine lv_aload_n hx hb dX7_init_13 rfl (lv_at hl 0 rfl) ?_
  refine lv_iconst (v := 4) hx hb dX7_init_14 (by decide) ?_
  refine hx_newa S X (ty := .int) 0 rfl rfl (by decide +kernel) (n := 4) (N' := 4) (a0 := (4, .inl (fun _ => 0))) (fun _ => rfl) (by decide) (by decide) (by decide) (Nat.le_of_ble_eq_true rfl) (Nat.le_of_ble_eq_true rfl) dX7_init_15 (fun q2 H X => ?_)
  have X : hH G (va_A [(a0, .inr (7, [.int 0, .null, .null, .null, .null, .null, .int 0, .null, .null, .null, .null, .null]))] s.heap.size) s.heap s [(a0, .inr (7, [.int 0, .ref q1, .null, .null, .null, .null, .int 0, .null, .null, .null, .null, .null])), (q1, hAI G 972 (fun _ => 0)), (q2, hAI G 4 (fun _ => 0))] H _ := X
  refine hx_putFL S X (ci := 7) tyX7_ok nmX7 0 rfl rfl hin7 2 (by decide) (by decide +kernel) rfl hin rfl rfl rfl (Nat.le_of_ble_eq_true rfl) dX7_init_17 (wd' := [(a0, .inr (7, [.int 0, .ref q1, .ref q2, .null, .null, .null, .int 0, .null, .null, .null, .null, .null])), (q1, hAI G 972 (fun _ => 0)), (q2, hAI G 4 (fun _ => 0))]) rfl (fun H locs X => ?_)
  refine lv_aload_n hx hb dX7_init_20 rfl (lv_at hl 0 rfl) ?_
  refine lv_bipush (v := 32) hx hb dX7_init_21 (by decide) ?_
  refine hx_newa S X (ty := .int) 0 rfl rfl (by decide +kernel) (n := 32) (N' := 32) (a0 := (32, .inl (fun _ => 0))) (fun _ => rfl) (by decide) (by decide) (by decide) (Nat.le_of_ble_eq_true rfl) (Nat.le_of_ble_eq_true rfl) dX7_init_23 (fun q3 H X => ?_)
  have X : hH G (va_A [(a0, .inr (7, [.int 0, .null, .null, .null, .null, .null, .int 0, .null, .null, .null, .null, .null]))] s.heap.size) s.heap s [(a0, .inr (7, [.int 0, .ref q1, .ref q2, .null, .null, .null, .int 0, .null, .null, .null, .null, .null])), (q1, hAI G 972 (fun _ => 0)), (q2, hAI G 4 (fun _ => 0)), (q3, hAI G 32 (fun _ => 0))] H _ := X
  refine hx_putFL S X (ci := 7) tyX7_ok nmX7 0 rfl rfl hin7 3 (by decide) (by decide +kernel) rfl hin rfl rfl rfl (Nat.le_of_ble_eq_true rfl) dX7_init_25 (wd' := [(a0, .inr (7, [.int 0, .ref q1, .ref q2, .ref q3, .null, .null, .int 0, .null, .null, .null, .null, .null])), (q1, hAI G 972 (fun _ => 0)), (q2, hAI G 4 (fun _ => 0)), (q3, hAI G 32 (fun _ => 0))]) rfl (fun H locs X => ?_)
  refine lv_aload_n hx hb dX7_init_28 rfl (lv_at hl 0 rfl) ?_
  refine lv_bipush (v := 32) hx hb dX7_init_29 (by decide) ?_
  refine hx_newa S X (ty := .int) 0 rfl rfl (by decide +kernel) (n := 32) (N' := 32) (a0 := (32, .inl (fun _ => 0))) (fun _ => rfl) (by decide) (by decide) (by decide) (Nat.le_of_ble_eq_true rfl) (Nat.le_of_ble_eq_true rfl) dX7_init_31 (fun q4 H X => ?_)
  have X : hH G (va_A [(a0, .inr (7, [.int 0, .null, .null, .null, .null, .null, .int 0, .null, .null, .null, .null, .null]))] s.heap.size) s.heap s [(a0, .inr (7, [.int 0, .ref q1, .ref q2, .ref q3, .null, .null, .int 0, .null, .null, .null, .null, .null])), (q1, hAI G 972 (fun _ => 0)), (q2, hAI G 4 (fun _ => 0)), (q3, hAI G 32 (fun _ => 0)), (q4, hAI G 32 (fun _ => 0))] H _ := X
  refine hx_putFL S X (ci := 7) tyX7_ok nmX7 0 rfl rfl hin7 4 (by decide) (by decide +kernel) rfl hin rfl rfl rfl (Nat.le_of_ble_eq_true rfl) dX7_init_33 (wd' := [(a0, .inr (7, [.int 0, .ref q1, .ref q2, .ref q3, .ref q4, .null, .int 0, .null, .null, .null, .null, .null])), (q1, hAI G 972 (fun _ => 0)), (q2, hAI G 4 (fun _ => 0)), (q3, hAI G 32 (fun _ => 0)), (q4, hAI G 32 (fun _ => 0))]) rfl (fun H locs X => ?_)
  refine lv_aload_n hx hb dX7_init_36 rfl (lv_at hl 0 rfl) ?_
  refine lv_bipush (v := 32) hx hb dX7_init_37 (by decide) ?_
  refine hx_newa S X (ty := .int) 0 rfl rfl (by decide +kernel) (n := 32) (N' := 32) (a0 := (32, .inl (fun _ => 0))) (fun _ => rfl) (by decide) (by decide) (by decide) (Nat.le_of_ble_eq_true rfl) (Nat.le_of_ble_eq_true rfl) dX7_init_39 (fun q5 H X => ?_)
  have X : hH G (va_A [(a0, .inr (7, [.int 0, .null, .null, .null, .null, .null, .int 0, .null, .null, .null, .null, .null]))] s.heap.size) s.heap s [(a0, .inr (7, [.int 0, .ref q1, .ref q2, .ref q3, .ref q4, .null, .int 0, .null, .null, .null, .null, .null])), (q1, hAI G 972 (fun _ => 0)), (q2, hAI G 4 (fun _ => 0)), (q3, hAI G 32 (fun _ => 0)), (q4, hAI G 32 (fun _ => 0)), (q5, hAI G 32 (fun _ => 0))] H _ := X
  refine hx_putFL S X (ci := 7) tyX7_ok nmX7 0 rfl rfl hin7 5 (by decide) (by decide +kernel) rfl hin rfl rfl rfl (Nat.le_of_ble_eq_true rfl) dX7_init_41 (wd' := [(a0, .inr (7, [.int 0, .ref q1, .ref q2, .ref q3, .ref q4, .ref q5, .int 0, .null, .null, .null, .null, .null])), (q1, hAI G 972 (fun _ => 0)), (q2, hAI G 4 (fun _ => 0)), (q3, hAI G 32 (fun _ => 0)), (q4, hAI G 32 (fun _ => 0)), (q5, hAI G 32 (fun _ => 0))]) rfl (fun H locs X => ?_)
  refine lv_aload_n hx hb dX7_init_44 rfl (lv_at hl 0 rfl) ?_
  refine lv_bipush (v := 24) hx hb dX7_init_45 (by decide) ?_
  refine hx_newa S X (ty := .boolean) 1 rfl rfl (by decide +kernel) (n := 24) (N' := 24) (a0 := (24, .inl (fun _ => 0))) (fun _ => rfl) (by decide) (by decide) (by decide) (Nat.le_of_ble_eq_true rfl) (Nat.le_of_ble_eq_true rfl) dX7_init_47 (fun q6 H X => ?_)
  have X : hH G (va_A [(a0, .inr (7, [.int 0, .null, .null, .null, .null, .null, .int 0, .null, .null, .null, .null, .null]))] s.heap.size) s.heap s [(a0, .inr (7, [.int 0, .ref q1, .ref q2, .ref q3, .ref q4, .ref q5, .int 0, .null, .null, .null, .null, .null])), (q1, hAI G 972 (fun _ => 0)), (q2, hAI G 4 (fun _ => 0)), (q3, hAI G 32 (fun _ => 0)), (q4, hAI G 32 (fun _ => 0)), (q5, hAI G 32 (fun _ => 0)), (q6, hAZ G 24 (fun _ => 0))] H _ := X
  refine hx_putFL S X (ci := 7) tyX7_ok nmX7 0 rfl rfl hin7 7 (by decide) (by decide +kernel) rfl hin rfl rfl rfl (Nat.le_of_ble_eq_true rfl) dX7_init_49 (wd' := [(a0, .inr (7, [.int 0, .ref q1, .ref q2, .ref q3, .ref q4, .ref q5, .int 0, .ref q6, .null, .null, .null, .null])), (q1, hAI G 972 (fun _ => 0)), (q2, hAI G 4 (fun _ => 0)), (q3, hAI G 32 (fun _ => 0)), (q4, hAI G 32 (fun _ => 0)), (q5, hAI G 32 (fun _ => 0)), (q6, hAZ G 24 (fun _ => 0))]) rfl (fun H locs X => ?_)
  refine lv_aload_n hx hb dX7_init_52 rfl (lv_at hl 0 rfl) ?_
  refine lv_bipush (v := 24) hx hb dX7_init_53 (by decide) ?_
  refine hx_newa S X (ty := .int) 0 rfl rfl (by decide +kernel) (n := 24) (N' := 24) (a0 := (24, .inl (fun _ => 0))) (fun _ => rfl) (by decide) (by decide) (by decide) (Nat.le_of_ble_eq_true rfl) (Nat.le_of_ble_eq_true rfl) dX7_init_55 (fun q7 H X => ?_)
  have X : hH G (va_A [(a0, .inr (7, [.int 0, .null, .null, .null, .null, .null, .int 0, .null, .null, .null, .null, .null]))] s.heap.size) s.heap s [(a0, .inr (7, [.int 0, .ref q1, .ref q2, .ref q3, .ref q4, .ref q5, .int 0, .ref q6, .null, .null, .null, .null])), (q1, hAI G 972 (fun _ => 0)), (q2, hAI G 4 (fun _ => 0)), (q3, hAI G 32 (fun _ => 0)), (q4, hAI G 32 (fun _ => 0)), (q5, hAI G 32 (fun _ => 0)), (q6, hAZ G 24 (fun _ => 0)), (q7, hAI G 24 (fun _ => 0))] H _ := X
  refine hx_putFL S X (ci := 7) tyX7_ok nmX7 0 rfl rfl hin7 8 (by decide) (by decide +kernel) rfl hin rfl rfl rfl (Nat.le_of_ble_eq_true rfl) dX7_init_57 (wd' := [(a0, .inr (7, [.int 0, .ref q1, .ref q2, .ref q3, .ref q4, .ref q5, .int 0, .ref q6, .ref q7, .null, .null, .null])), (q1, hAI G 972 (fun _ => 0)), (q2, hAI G 4 (fun _ => 0)), (q3, hAI G 32 (fun _ => 0)), (q4, hAI G 32 (fun _ => 0)), (q5, hAI G 32 (fun _ => 0)), (q6, hAZ G 24 (fun _ => 0)), (q7, hAI G 24 (fun _ => 0))]) rfl (fun H locs X => ?_)
  refine lv_aload_n hx hb dX7_init_60 rfl (lv_at hl 0 rfl) ?_
  refine lv_bipush (v := 24) hx hb dX7_init_61 (by decide) ?_
  refine hx_newa S X (ty := .int) 0 rfl rfl (by decide +kernel) (n := 24) (N' := 24) (a0 := (24, .inl (fun _ => 0))) (fun _ => rfl) (by decide) (by decide) (by decide) (Nat.le_of_ble_eq_true rfl) (Nat.le_of_ble_eq_true rfl) dX7_init_63 (fun q8 H X => ?_)
  have X : hH G (va_A [(a0, .inr (7, [.int 0, .null, .null, .null, .null, .null, .int 0, .null, .null, .null, .null, .null]))] s.heap.size) s.heap s [(a0, .inr (7, [.int 0, .ref q1, .ref q2, .ref q3, .ref q4, .ref q5, .int 0, .ref q6, .ref q7, .null, .null, .null])), (q1, hAI G 972 (fun _ => 0)), (q2, hAI G 4 (fun _ => 0)), (q3, hAI G 32 (fun _ => 0)), (q4, hAI G 32 (fun _ => 0)), (q5, hAI G 32 (fun _ => 0)), (q6, hAZ G 24 (fun _ => 0)), (q7, hAI G 24 (fun _ => 0)), (q8, hAI G 24 (fun _ => 0))] H _ := X
  refine hx_putFL S X (ci := 7) tyX7_ok nmX7 0 rfl rfl hin7 9 (by decide) (by decide +kernel) rfl hin rfl rfl rfl (Nat.le_of_ble_eq_true rfl) dX7_init_65 (wd' := [(a0, .inr (7, [.int 0, .ref q1, .ref q2, .ref q3, .ref q4, .ref q5, .int 0, .ref q6, .ref q7, .ref q8, .null, .null])), (q1, hAI G 972 (fun _ => 0)), (q2, hAI G 4 (fun _ => 0)), (q3, hAI G 32 (fun _ => 0)), (q4, hAI G 32 (fun _ => 0)), (q5, hAI G 32 (fun _ => 0)), (q6, hAZ G 24 (fun _ => 0)), (q7, hAI G 24 (fun _ => 0)), (q8, hAI G 24 (fun _ => 0))]) rfl (fun H locs X => ?_)
  refine lv_aload_n hx hb dX7_init_68 rfl (lv_at hl 0 rfl) ?_
  refine lv_bipush (v := 24) hx hb dX7_init_69 (by decide) ?_
  refine hx_newa S X (ty := .int) 0 rfl rfl (by decide +kernel) (n := 24) (N' := 24) (a0 := (24, .inl (fun _ => 0))) (fun _ => rfl) (by decide) (by decide) (by decide) (Nat.le_of_ble_eq_true rfl) (Nat.le_of_ble_eq_true rfl) dX7_init_71 (fun q9 H X => ?_)
  have X : hH G (va_A [(a0, .inr (7, [.int 0, .null, .null, .null, .null, .null, .int 0, .null, .null, .null, .null, .null]))] s.heap.size) s.heap s [(a0, .inr (7, [.int 0, .ref q1, .ref q2, .ref q3, .ref q4, .ref q5, .int 0, .ref q6, .ref q7, .ref q8, .null, .null])), (q1, hAI G 972 (fun _ => 0)), (q2, hAI G 4 (fun _ => 0)), (q3, hAI G 32 (fun _ => 0)), (q4, hAI G 32 (fun _ => 0)), (q5, hAI G 32 (fun _ => 0)), (q6, hAZ G 24 (fun _ => 0)), (q7, hAI G 24 (fun _ => 0)), (q8, hAI G 24 (fun _ => 0)), (q9, hAI G 24 (fun _ => 0))] H _ := X
  refine hx_putFL S X (ci := 7) tyX7_ok nmX7 0 rfl rfl hin7 10 (by decide) (by decide +kernel) rfl hin rfl rfl rfl (Nat.le_of_ble_eq_true rfl) dX7_init_73 (wd' := [(a0, .inr (7, [.int 0, .ref q1, .ref q2, .ref q3, .ref q4, .ref q5, .int 0, .ref q6, .ref q7, .ref q8, .ref q9, .null])), (q1, hAI G 972 (fun _ => 0)), (q2, hAI G 4 (fun _ => 0)), (q3, hAI G 32 (fun _ => 0)), (q4, hAI G 32 (fun _ => 0)), (q5, hAI G 32 (fun _ => 0)), (q6, hAZ G 24 (fun _ => 0)), (q7, hAI G 24 (fun _ => 0)), (q8, hAI G 24 (fun _ => 0)), (q9, hAI G 24 (fun _ => 0))]) rfl (fun H locs X => ?_)
  refine lv_aload_n hx hb dX7_init_76 rfl (lv_at hl 0 rfl) ?_
  refine lv_sipush (v := 1536) hx hb dX7_init_77 (by decide) ?_
  refine hx_newa S X (ty := .int) 0 rfl rfl (by decide +kernel) (n := 1536) (N' := 1536) (a0 := (1536, .inl (fun _ => 0))) (fun _ => rfl) (by decide) (by decide) (by decide) (Nat.le_of_ble_eq_true rfl) (Nat.le_of_ble_eq_true rfl) dX7_init_80 (fun q10 H X => ?_)
  have X : hH G (va_A [(a0, .inr (7, [.int 0, .null, .null, .null, .null, .null, .int 0, .null, .null, .null, .null, .null]))] s.heap.size) s.heap s [(a0, .inr (7, [.int 0, .ref q1, .ref q2, .ref q3, .ref q4, .ref q5, .int 0, .ref q6, .ref q7, .ref q8, .ref q9, .null])), (q1, hAI G 972 (fun _ => 0)), (q2, hAI G 4 (fun _ => 0)), (q3, hAI G 32 (fun _ => 0)), (q4, hAI G 32 (fun _ => 0)), (q5, hAI G 32 (fun _ => 0)), (q6, hAZ G 24 (fun _ => 0)), (q7, hAI G 24 (fun _ => 0)), (q8, hAI G 24 (fun _ => 0)), (q9, hAI G 24 (fun _ => 0)), (q10, hAI G 1536 (fun _ => 0))] H _ := X
  refine hx_putFL S X (ci := 7) tyX7_ok nmX7 0 rfl rfl hin7 11 (by decide) (by decide +kernel) rfl hin rfl rfl rfl (Nat.le_of_ble_eq_true rfl) dX7_init_82 (wd' := [(a0, .inr (7, [.int 0, .ref q1, .ref q2, .ref q3, .ref q4, .ref q5, .int 0, .ref q6, .ref q7, .ref q8, .ref q9, .ref q10])), (q1, hAI G 972 (fun _ => 0)), (q2, hAI G 4 (fun _ => 0)), (q3, hAI G 32 (fun _ => 0)), (q4, hAI G 32 (fun _ => 0)), (q5, hAI G 32 (fun _ => 0)), (q6, hAZ G 24 (fun _ => 0)), (q7, hAI G 24 (fun _ => 0)), (q8, hAI G 24 (fun _ => 0)), (q9, hAI G 24 (fun _ => 0)), (q10, hAI G 1536 (fun _ => 0))]) rfl (fun H locs X => ?_)
  exact hx_vret S X hr hlk (Nat.le_of_ble_eq_true rfl) (Nat.le_of_ble_eq_true rfl) ⟨(fun j => match j with | 0 => a0 | 1 => q1 | 2 => q2 | 3 => q3 | 4 => q4 | 5 => q5 | 6 => q6 | 7 => q7 | 8 => q8 | 9 => q9 | 10 => q10 | _ => 0), rfl, rfl⟩ dX7_init_85
/-- the making of the four stacks: i of them stand -/
def skI (G : hG) (L0 : List Nat) (f0 : Nat → va_E) (cva : Nat) (L1 : List Nat) (f1 : Nat → va_E) (gc : Nat → Option Nat) (cv sa : Nat → Nat) (i : Nat) : Prop :=
  (∀ a, a ∈ L0 → a ∈ L1) ∧ (∀ a, a ∈ L0 → a ≠ cva → f1 a = f0 a) ∧ f1 cva = hAQ G 2 4 gc ∧
  (∀ v, v < i → gc v = some (cv v) ∧ (cv v ∈ L1 ∧ cv v ∉ L0 ∧ f1 (cv v) = .inr (0, [.ref (sa v), .int 0])) ∧ (sa v ∈ L1 ∧ sa v ∉ L0 ∧ f1 (sa v) = hAQ G 5 8 (fun _ => none))) ∧
  (∀ v u, v < i → u < i → (cv v = cv u → v = u) ∧ (sa v = sa u → v = u))
theorem skI_step {G : hG} {L0 : List Nat} {f0 : Nat → va_E} {cva : Nat} {L1 : List Nat} {f1 : Nat → va_E} {gc : Nat → Option Nat} {cv sa : Nat → Nat} {i q q2 : Nat} (h : skI G L0 f0 cva L1 f1 gc cv sa i) (hc : cva ∈ L0) (hq : q ∉ L1) (hq2 : q2 ∉ L1 ++ [q]) :
    skI G L0 f0 cva ((L1 ++ [q]) ++ [q2]) (va_up (va_up (va_up (va_up f1 q (.inr (0, [.null, .int 0]))) q2 (hAQ G 5 8 (fun _ => none))) q (.inr (0, [.ref q2, .int 0]))) cva (hAQ G 2 4 (va_up gc i (some q)))) (va_up gc i (some q)) (va_up cv i q) (va_up sa i q2) (i + 1) := by
  obtain ⟨h1, h2, h3, h4, h5⟩ := h
  have hq20 : q2 ∉ L1 := fun z => hq2 (List.mem_append_left _ z)
  have hne : q2 ≠ q := fun z => hq2 (List.mem_append_right _ (by rw [z]; exact List.mem_singleton.mpr rfl))
  have hqc : cva ≠ q := fun z => hq (z ▸ h1 _ hc)
  have hq2c : cva ≠ q2 := fun z => hq20 (z ▸ h1 _ hc)
  have up : ∀ a, a ∈ L1 → a ≠ cva → va_up (va_up (va_up (va_up f1 q (.inr (0, [.null, .int 0]))) q2 (hAQ G 5 8 (fun _ => none))) q (.inr (0, [.ref q2, .int 0]))) cva (hAQ G 2 4 (va_up gc i (some q))) a = f1 a := fun a ha hn => by
    rw [va_up_n _ _ hn, va_up_n _ _ (show a ≠ q from fun z => hq (z ▸ ha)), va_up_n _ _ (show a ≠ q2 from fun z => hq20 (z ▸ ha)), va_up_n _ _ (show a ≠ q from fun z => hq (z ▸ ha))]
  refine ⟨fun a ha => List.mem_append_left _ (List.mem_append_left _ (h1 a ha)), fun a ha hn => by rw [up a (h1 a ha) hn]; exact h2 a ha hn, va_up_s _ _ _, fun v hv => ?_, fun v u hv hu => ?_⟩
  · by_cases e : v = i
    · subst e
      rw [va_up_s, va_up_s, va_up_s]
      refine ⟨rfl, ⟨List.mem_append_left _ (List.mem_append_right _ (List.mem_singleton.mpr rfl)), fun z => hq (h1 _ z), ?_⟩, ⟨List.mem_append_right _ (List.mem_singleton.mpr rfl), fun z => hq20 (h1 _ z), ?_⟩⟩
      · rw [va_up_n _ _ (fun z => hqc z.symm), va_up_s]
      · rw [va_up_n _ _ (fun z => hq2c z.symm), va_up_n _ _ hne, va_up_s]
    · obtain ⟨g1, ⟨g2, g3, g4⟩, g5, g6, g7⟩ := h4 v (by omega)
      rw [va_up_n _ _ e, va_up_n _ _ e, va_up_n _ _ e]
      refine ⟨g1, ⟨List.mem_append_left _ (List.mem_append_left _ g2), g3, ?_⟩, ⟨List.mem_append_left _ (List.mem_append_left _ g5), g6, ?_⟩⟩
      · rw [up _ g2 (fun z => g3 (z ▸ hc))]; exact g4
      · rw [up _ g5 (fun z => g6 (z ▸ hc))]; exact g7
  · by_cases e : v = i <;> by_cases e2 : u = i
    · exact ⟨fun _ => by omega, fun _ => by omega⟩
    · obtain ⟨-, ⟨g2, -, -⟩, g5, -, -⟩ := h4 u (by omega)
      subst e
      rw [va_up_s, va_up_s, va_up_n _ _ e2, va_up_n _ _ e2]
      exact ⟨fun z => absurd (z ▸ g2) hq, fun z => absurd (z ▸ g5) hq20⟩
    · obtain ⟨-, ⟨g2, -, -⟩, g5, -, -⟩ := h4 v (by omega)
      subst e2
      rw [va_up_s, va_up_s, va_up_n _ _ e, va_up_n _ _ e]
      exact ⟨fun z => absurd (z ▸ g2) hq, fun z => absurd (z ▸ g5) hq20⟩
    · rw [va_up_n _ _ e, va_up_n _ _ e, va_up_n _ _ e2, va_up_n _ _ e2]
      exact h5 v u (by omega) (by omega)

theorem rx_start {G : hG} {L1 : List Nat} {f1 : Nat → va_E} {h0 A1 A2 q : Nat} {g1 g2 : Nat → Option Nat} {sk fa : Nat → Nat} (hq : q ∉ L1) (m0 : h0 ∈ L1) (mA1 : A1 ∈ L1) (fA1 : f1 A1 = hAQ G 3 6 g1) (mA2 : A2 ∈ L1) (fA2 : f1 A2 = hAQ G 2 4 g2) (n1 : A1 ≠ h0) (n2 : A2 ≠ h0)
    (hs : ∀ t, t < 4 → g2 t = some (sk t) ∧ (sk t ∈ L1 ∧ sk t ≠ h0 ∧ f1 (sk t) = .inr (0, [.ref (fa t), .int 0])) ∧ (fa t ∈ L1 ∧ fa t ≠ h0 ∧ f1 (fa t) = hAQ G 5 8 (fun _ => none))) (hij : ∀ v u, v < 4 → u < 4 → (sk v = sk u → v = u) ∧ (fa v = fa u → v = u)) :
    XPo G h0 (fun _ _ => 0) (va_pl (L1 ++ [q]) (va_up (va_up f1 q (hAQ G 7 24 (fun _ => none))) h0 (.inr (6, [.ref A1, .int 0, .ref A2, .ref q, .int 0])))) := by
  generalize hf2 : va_up (va_up f1 q (hAQ G 7 24 (fun _ => none))) h0 (.inr (6, [.ref A1, .int 0, .ref A2, .ref q, .int 0])) = f2
  have hqh : q ≠ h0 := fun z => hq (z ▸ m0)
  have o : ∀ a, a ∈ L1 → a ≠ h0 → f2 a = f1 a := fun a ha hn => by
    have hne : a ≠ q := fun z => hq (by rw [← z]; exact ha)
    rw [← hf2, va_up_n _ _ hn, va_up_n _ _ hne]
  have f0 : f2 h0 = .inr (6, [.ref A1, .int 0, .ref A2, .ref q, .int 0]) := by rw [← hf2, va_up_s]
  have fq : f2 q = hAQ G 7 24 (fun _ => none) := by rw [← hf2, va_up_n _ _ hqh, va_up_s]
  have fB1 : f2 A1 = hAQ G 3 6 g1 := (o A1 mA1 n1).trans fA1
  have fB2 : f2 A2 = hAQ G 2 4 g2 := (o A2 mA2 n2).trans fA2
  have fS : ∀ t, t < 4 → f2 (sk t) = .inr (0, [.ref (fa t), .int 0]) := fun t ht => (o _ (hs t ht).2.1.1 (hs t ht).2.1.2.1).trans (hs t ht).2.1.2.2
  have fF : ∀ t, t < 4 → f2 (fa t) = hAQ G 5 8 (fun _ => none) := fun t ht => (o _ (hs t ht).2.2.1 (hs t ht).2.2.2.1).trans (hs t ht).2.2.2.2
  have l : ∀ a, a ∈ L1 → a ∈ L1 ++ [q] := fun a h => List.mem_append_left _ h
  have lq : q ∈ L1 ++ [q] := List.mem_append_right _ (List.mem_singleton.mpr rfl)
  have shp : ∀ a b c d, XL (fun _ _ => 0) a b c d → (a = 0 ∨ a = 1 ∨ a = 2 ∨ a = 3) ∧ b = 0 ∧ c = 0 ∧ d = 0 ∨ (a = 10 ∨ a = 11) ∧ b < 4 ∧ c = 0 ∧ d = 0 := by
    refine rx_cases (fun _ _ => 0) (by omega) (by omega) (by omega) (by omega) (fun u hu => ?_) (fun u hu => ?_) (fun u hu => ?_) (fun u v hu hv => ?_) (fun u v hu hv => ?_) (fun u v n hu hv hn => ?_) (fun u hu => by omega) (fun u hu => by omega) (fun u k hu hk2 => ?_) (fun u hu hx => ?_) (fun u hu hx => ?_) (fun u v hu hx hv => ?_)
    all_goals first
      | exact absurd hu (Nat.not_lt_zero _)
      | exact absurd hk2 (Nat.not_lt_zero _)
  refine ⟨L1 ++ [q], f2, fun a b _ _ => if a = 0 then h0 else if a = 1 then A1 else if a = 2 then A2 else if a = 3 then q else if a = 10 then sk b else fa b, rfl, ⟨fun a b c d h => ?_, fun a b c d a2 b2 c2 d2 h h2 e => ?_⟩, rfl⟩
  · rcases shp a b c d h with ⟨r, rfl, rfl, rfl⟩ | ⟨r, hb, rfl, rfl⟩
    · rcases r with rfl | rfl | rfl | rfl
      · exact ⟨l _ m0, f0⟩
      · exact ⟨l _ mA1, g1, fB1, fun t ht => absurd ht (Nat.not_lt_zero _)⟩
      · exact ⟨l _ mA2, g2, fB2, fun t ht => (hs t ht).1⟩
      · exact ⟨lq, _, fq, fun t ht => absurd ht (Nat.not_lt_zero _)⟩
    · rcases r with rfl | rfl
      · exact ⟨l _ (hs b hb).2.1.1, fS b hb⟩
      · exact ⟨l _ (hs b hb).2.2.1, _, fF b hb, fun k hk => absurd hk (Nat.not_lt_zero _)⟩
  · have e2 := congrArg f2 e
    rcases shp a b c d h with ⟨r, rfl, rfl, rfl⟩ | ⟨r, hb, rfl, rfl⟩ <;> rcases shp a2 b2 c2 d2 h2 with ⟨r2, rfl, rfl, rfl⟩ | ⟨r2, hb2, rfl, rfl⟩
    · rcases r with rfl | rfl | rfl | rfl <;> rcases r2 with rfl | rfl | rfl | rfl <;> first
        | exact ⟨rfl, rfl, rfl, rfl⟩
        | exact absurd e2 (by simp [f0, fq, fB1, fB2])
    · rcases r with rfl | rfl | rfl | rfl <;> rcases r2 with rfl | rfl <;> exact absurd e2 (by simp [f0, fq, fB1, fB2, fS b2 hb2, fF b2 hb2])
    · rcases r with rfl | rfl <;> rcases r2 with rfl | rfl | rfl | rfl <;> exact absurd e2 (by simp [f0, fq, fB1, fB2, fS b hb, fF b hb])
    · rcases r with rfl | rfl <;> rcases r2 with rfl | rfl <;> first
        | exact ⟨rfl, (hij _ _ hb hb2).1 e, rfl, rfl⟩
        | exact ⟨rfl, (hij _ _ hb hb2).2 e, rfl, rfl⟩
        | exact absurd e2 (by simp [fS b hb, fF b hb, fS b2 hb2, fF b2 hb2])
theorem iv_start : Iv (fun _ _ => 0) := by
  refine ⟨⟨⟨rfl, by decide⟩, ⟨rfl, by decide⟩, fun t ht => absurd ht (Nat.not_lt_zero _), fun th _ => ⟨rfl, by show cN 0 ≤ 8; decide⟩, fun j _ hl => absurd hl (Nat.not_lt_zero _), fun o ho => absurd ho (Nat.not_lt_zero _)⟩, fun j _ _ => rfl⟩
set_option maxRecDepth 100000 in
set_option maxHeartbeats 4000000 in
theorem c_X6_init (l : Launch) (G : hG) (L : List Nat) (f : Nat → va_E) (h0 : Nat) (m0 : h0 ∈ L) (f0 : f h0 = .inr (6, [.null, .int ((0 : Int32)), .null, .null, .int ((0 : Int32))]))  : hMv l G yX6_init wsX6_init ({ frames := 2, cells := 11, slots := 74, locals := 40 } : Room) (va_pl L f) [.ref (h0)] (fun w => XPo G h0 (fun _ _ => 0) w) := by
  refine hMv.of (cc := cX6_init) (maxL := 2) none RX6 rfl (by decide +kernel) rfl (Nat.le_of_ble_eq_true rfl) ?_
  intro p e s m args below meth c S hr hlk hin X ls hl
  have hx := S.1
  have hb := S.2.1
  have hown := S.2.2.2.1
  have hts := S.2.2.2.2
  have hl : lv_has ls 2 [(0, .ref (h0))] := hl
  have hin0 : ∀ w ∈ wsX00, w ∈ wsX6_init := by decide +kernel
  have hin6 : ∀ w ∈ wsX60, w ∈ wsX6_init := by decide +kernel
  refine lv_aload_n hx hb dX6_init_0 rfl (lv_at hl 0 rfl) ?_
  refine W.objInit hx hb hown (hts (Cond.methodLink RX6 1 objectInit) (by decide +kernel)) (hts (Cond.instanceMethod objectInit) (by decide +kernel)) (hts (Cond.code objectInit ⟨#[0xb1]⟩ 1 none) (by decide +kernel)) rfl (by rw [S.2.2.1]; exact hl.1) rfl dX6_init_1 (Nat.le_of_ble_eq_true rfl) (Nat.le_of_ble_eq_true rfl) ?_
  refine W.eq (g2 := F0 m 4 ls []) rfl ?_
  refine lv_aload_n hx hb dX6_init_4 rfl (lv_at hl 0 rfl) ?_
  refine lv_bipush (v := 6) hx hb dX6_init_5 (by decide) ?_
  refine xp_newQ S X 3 (C := RX1) rfl (by decide +kernel) (by decide +kernel) (N' := 6) (by decide) (Nat.le_of_ble_eq_true rfl) (Nat.le_of_ble_eq_true rfl) dX6_init_7 (fun q1 H hq1 X => ?_)
  have k2 : (va_up f (q1) (hAQ G 3 6 (fun _ => none))) (h0) = .inr (6, [.null, .int ((0 : Int32)), .null, .null, .int ((0 : Int32))]) := up_n f0 (fun q => hq1 (q ▸ m0))
  have k3 : (va_up f (q1) (hAQ G 3 6 (fun _ => none))) (q1) = hAQ G 3 6 (fun _ => none) := va_up_s _ _ _
  refine xp_putF S X (ci := 6) (fs2 := [.ref (q1), .int ((0 : Int32)), .null, .null, .int ((0 : Int32))]) tyX6_ok nmX6 (List.mem_append_left _ m0) k2 rfl hin6 0 (by decide) (by decide +kernel) rfl hin rfl rfl rfl (Nat.le_of_ble_eq_true rfl) rfl dX6_init_10 (fun H locs X => ?_)
  have k4 : (va_up (va_up f (q1) (hAQ G 3 6 (fun _ => none))) (h0) (.inr (6, [.ref (q1), .int ((0 : Int32)), .null, .null, .int ((0 : Int32))]))) (q1) = hAQ G 3 6 (fun _ => none) := up_k k2 k3 (by simp)
  have k5 : (va_up (va_up f (q1) (hAQ G 3 6 (fun _ => none))) (h0) (.inr (6, [.ref (q1), .int ((0 : Int32)), .null, .null, .int ((0 : Int32))]))) (h0) = .inr (6, [.ref (q1), .int ((0 : Int32)), .null, .null, .int ((0 : Int32))]) := va_up_s _ _ _
  refine lv_aload_n hx hb dX6_init_13 rfl (lv_at hl 0 rfl) ?_
  refine lv_iconst (v := 4) hx hb dX6_init_14 (by decide) ?_
  refine xp_newQ S X 2 (C := RX0) rfl (by decide +kernel) (by decide +kernel) (N' := 4) (by decide) (Nat.le_of_ble_eq_true rfl) (Nat.le_of_ble_eq_true rfl) dX6_init_15 (fun q6 H hq6 X => ?_)
  have k7 : (va_up (va_up (va_up f (q1) (hAQ G 3 6 (fun _ => none))) (h0) (.inr (6, [.ref (q1), .int ((0 : Int32)), .null, .null, .int ((0 : Int32))]))) (q6) (hAQ G 2 4 (fun _ => none))) (q1) = hAQ G 3 6 (fun _ => none) := up_n k4 (fun q => hq6 (q ▸ (List.mem_append_right _ (List.mem_singleton.mpr rfl))))
  have k8 : (va_up (va_up (va_up f (q1) (hAQ G 3 6 (fun _ => none))) (h0) (.inr (6, [.ref (q1), .int ((0 : Int32)), .null, .null, .int ((0 : Int32))]))) (q6) (hAQ G 2 4 (fun _ => none))) (h0) = .inr (6, [.ref (q1), .int ((0 : Int32)), .null, .null, .int ((0 : Int32))]) := up_n k5 (fun q => hq6 (q ▸ (List.mem_append_left _ m0)))
  have k9 : (va_up (va_up (va_up f (q1) (hAQ G 3 6 (fun _ => none))) (h0) (.inr (6, [.ref (q1), .int ((0 : Int32)), .null, .null, .int ((0 : Int32))]))) (q6) (hAQ G 2 4 (fun _ => none))) (q6) = hAQ G 2 4 (fun _ => none) := va_up_s _ _ _
  refine xp_putF S X (ci := 6) (fs2 := [.ref (q1), .int ((0 : Int32)), .ref (q6), .null, .int ((0 : Int32))]) tyX6_ok nmX6 (List.mem_append_left _ (List.mem_append_left _ m0)) k8 rfl hin6 2 (by decide) (by decide +kernel) rfl hin rfl rfl rfl (Nat.le_of_ble_eq_true rfl) rfl dX6_init_18 (fun H locs X => ?_)
  have k10 : (va_up (va_up (va_up (va_up f (q1) (hAQ G 3 6 (fun _ => none))) (h0) (.inr (6, [.ref (q1), .int ((0 : Int32)), .null, .null, .int ((0 : Int32))]))) (q6) (hAQ G 2 4 (fun _ => none))) (h0) (.inr (6, [.ref (q1), .int ((0 : Int32)), .ref (q6), .null, .int ((0 : Int32))]))) (q1) = hAQ G 3 6 (fun _ => none) := up_k k8 k7 (by simp)
  have k11 : (va_up (va_up (va_up (va_up f (q1) (hAQ G 3 6 (fun _ => none))) (h0) (.inr (6, [.ref (q1), .int ((0 : Int32)), .null, .null, .int ((0 : Int32))]))) (q6) (hAQ G 2 4 (fun _ => none))) (h0) (.inr (6, [.ref (q1), .int ((0 : Int32)), .ref (q6), .null, .int ((0 : Int32))]))) (q6) = hAQ G 2 4 (fun _ => none) := up_k k8 k9 (by simp)
  have k12 : (va_up (va_up (va_up (va_up f (q1) (hAQ G 3 6 (fun _ => none))) (h0) (.inr (6, [.ref (q1), .int ((0 : Int32)), .null, .null, .int ((0 : Int32))]))) (q6) (hAQ G 2 4 (fun _ => none))) (h0) (.inr (6, [.ref (q1), .int ((0 : Int32)), .ref (q6), .null, .int ((0 : Int32))]))) (h0) = .inr (6, [.ref (q1), .int ((0 : Int32)), .ref (q6), .null, .int ((0 : Int32))]) := va_up_s _ _ _
  refine lv_iconst (v := 0) hx hb dX6_init_21 (by decide) ?_
  refine lv_istore_n (lv' := [(1, .int ((0 : Int32))), (0, .ref (h0))]) hx hb dX6_init_22 rfl hl (by decide) rfl (fun ls hl => ?_)
  obtain ⟨L0, hL0⟩ : ∃ z, z = ((L ++ [q1]) ++ [q6]) := ⟨_, rfl⟩
  obtain ⟨f0, hf0⟩ : ∃ z, z = (va_up (va_up (va_up (va_up f (q1) (hAQ G 3 6 (fun _ => none))) (h0) (.inr (6, [.ref (q1), .int ((0 : Int32)), .null, .null, .int ((0 : Int32))]))) (q6) (hAQ G 2 4 (fun _ => none))) (h0) (.inr (6, [.ref (q1), .int ((0 : Int32)), .ref (q6), .null, .int ((0 : Int32))]))) := ⟨_, rfl⟩
  have zm0 : h0 ∈ L0 := by rw [hL0]; exact (List.mem_append_left _ (List.mem_append_left _ m0))
  have zf0 : f0 h0 = .inr (6, [.ref (q1), .int ((0 : Int32)), .ref (q6), .null, .int ((0 : Int32))]) := by rw [hf0]; exact k12
  have zma : q1 ∈ L0 := by rw [hL0]; exact (List.mem_append_left _ (List.mem_append_right _ (List.mem_singleton.mpr rfl)))
  have zfa : f0 q1 = hAQ G 3 6 (fun _ => none) := by rw [hf0]; exact k10
  have zmb : q6 ∈ L0 := by rw [hL0]; exact (List.mem_append_right _ (List.mem_singleton.mpr rfl))
  have zfb : f0 q6 = hAQ G 2 4 (fun _ => none) := by rw [hf0]; exact k11
  have n_h0_q6 : h0 ≠ q6 := fun z => by have h1 := zf0; rw [z, zfb] at h1; exact absurd h1 (by simp)
  have n_q1_q6 : q1 ≠ q6 := fun z => by have h1 := zfa; rw [z, zfb] at h1; exact absurd h1 (by simp)
  have n_q1_h0 : q1 ≠ h0 := fun z => by have h1 := zfa; rw [z, zf0] at h1; exact absurd h1 (by simp)
  have n_q6_h0 : q6 ≠ h0 := fun z => by have h1 := zfb; rw [z, zf0] at h1; exact absurd h1 (by simp)
  rw [← hL0, ← hf0] at X
  have loop : ∀ (n9 i : Nat) (L1 : List Nat) (f1 : Nat → va_E) (gc : Nat → Option Nat) (cv : Nat → Nat) (sa : Nat → Nat), i + n9 = 4 → skI G L0 f0 q6 L1 f1 gc cv sa i → ∀ (H : Heap) (locs : List Loc) (ls : Array Slot), hH G (va_A (va_pl L f) s.heap.size) s.heap s (va_pl L1 f1) H locs → lv_has ls 2 [(0, .ref (h0)), (1, .int (nI (i)))] → W p l e ({ frames := 2, cells := 11, slots := 74, locals := 40 } : Room) s m args below meth c H locs (2 + 2 * i) (10 + 10 * i) (MQ below (va_Qv (fun w => XPo G h0 (fun _ _ => 0) w) (hB G (va_A (va_pl L f) s.heap.size)) (va_A (va_pl L f) s.heap.size)) args s 11 74 (va_A (va_pl L f) s.heap.size)) (F0 m 23 ls []) := by
    intro n9
    induction n9 with
    | zero =>
      intro i L1 f1 gc cv sa hi9 hv H locs ls X hl
      have hi4 : i = 4 := by omega
      refine W.widen (k := 10) (n := 50) (by show 2 + 2 * i ≤ _; omega) (by show 10 + 10 * i ≤ _; omega) ?_
      refine lv_iload_n hx hb dX6_init_23 rfl (lv_at hl 1 rfl) ?_
      refine lv_iconst (v := 4) hx hb dX6_init_24 (by decide) ?_
      refine lv_icmp_ge (tgt := 47) hx hb dX6_init_25 (by decide) (fun _ => ?_) (fun c9 => absurd (nI_le (a := 4) (b := i) (by omega) (by omega)) c9)
      refine lv_aload_n hx hb dX6_init_47 rfl (lv_at hl 0 rfl) ?_
      refine lv_bipush (v := 24) hx hb dX6_init_48 (by decide) ?_
      refine xp_newQ S X 7 (C := RX5) rfl (by decide +kernel) (by decide +kernel) (N' := 24) (by decide) (Nat.le_of_ble_eq_true rfl) (Nat.le_of_ble_eq_true rfl) dX6_init_50 (fun q13 H hq13 X => ?_)
      have k14 : (va_up f1 (q13) (hAQ G 7 24 (fun _ => none))) (h0) = .inr (6, [.ref (q1), .int ((0 : Int32)), .ref (q6), .null, .int ((0 : Int32))]) := up_n ((hv.2.1 _ zm0 n_h0_q6).trans zf0) (fun q => hq13 (q ▸ (hv.1 _ zm0)))
      have k15 : (va_up f1 (q13) (hAQ G 7 24 (fun _ => none))) (q6) = hAQ G 2 4 (gc) := up_n hv.2.2.1 (fun q => hq13 (q ▸ (hv.1 _ zmb)))
      have k16 : (va_up f1 (q13) (hAQ G 7 24 (fun _ => none))) (q13) = hAQ G 7 24 (fun _ => none) := va_up_s _ _ _
      refine xp_putF S X (ci := 6) (fs2 := [.ref (q1), .int ((0 : Int32)), .ref (q6), .ref (q13), .int ((0 : Int32))]) tyX6_ok nmX6 (List.mem_append_left _ (hv.1 _ zm0)) k14 rfl hin6 3 (by decide) (by decide +kernel) rfl hin rfl rfl rfl (Nat.le_of_ble_eq_true rfl) rfl dX6_init_53 (fun H locs X => ?_)
      have k17 : (va_up (va_up f1 (q13) (hAQ G 7 24 (fun _ => none))) (h0) (.inr (6, [.ref (q1), .int ((0 : Int32)), .ref (q6), .ref (q13), .int ((0 : Int32))]))) (q6) = hAQ G 2 4 (gc) := up_k k14 k15 (by simp)
      have k18 : (va_up (va_up f1 (q13) (hAQ G 7 24 (fun _ => none))) (h0) (.inr (6, [.ref (q1), .int ((0 : Int32)), .ref (q6), .ref (q13), .int ((0 : Int32))]))) (q13) = hAQ G 7 24 (fun _ => none) := up_k k14 k16 (by simp)
      have k19 : (va_up (va_up f1 (q13) (hAQ G 7 24 (fun _ => none))) (h0) (.inr (6, [.ref (q1), .int ((0 : Int32)), .ref (q6), .ref (q13), .int ((0 : Int32))]))) (h0) = .inr (6, [.ref (q1), .int ((0 : Int32)), .ref (q6), .ref (q13), .int ((0 : Int32))]) := va_up_s _ _ _
      subst hi4
      exact hx_vret S X hr hlk (Nat.le_of_ble_eq_true rfl) (Nat.le_of_ble_eq_true rfl) (rx_start hq13 (hv.1 _ zm0) (hv.1 _ zma) ((hv.2.1 _ zma n_q1_q6).trans zfa) (hv.1 _ zmb) hv.2.2.1 n_q1_h0 n_q6_h0 (fun v h8 => ⟨(hv.2.2.2.1 v h8).1, ⟨(hv.2.2.2.1 v h8).2.1.1, fun z => (hv.2.2.2.1 v h8).2.1.2.1 (z ▸ zm0), (hv.2.2.2.1 v h8).2.1.2.2⟩, (hv.2.2.2.1 v h8).2.2.1, fun z => (hv.2.2.2.1 v h8).2.2.2.1 (z ▸ zm0), (hv.2.2.2.1 v h8).2.2.2.2⟩) hv.2.2.2.2) dX6_init_56
    | succ n9 ih =>
      intro i L1 f1 gc cv sa hi9 hv H locs ls X hl
      have hi4 : i < 4 := by omega
      refine lv_iload_n hx hb dX6_init_23 rfl (lv_at hl 1 rfl) ?_
      refine lv_iconst (v := 4) hx hb dX6_init_24 (by decide) ?_
      refine lv_icmp_ge (tgt := 47) hx hb dX6_init_25 (by decide) (fun c9 => absurd c9 (nI_ge (a := i) (b := 4) (by omega) (by omega))) (fun _ => ?_)
      refine lv_aload_n hx hb dX6_init_28 rfl (lv_at hl 0 rfl) ?_
      refine xp_get S X (ci := 6) (hv.1 _ zm0) ((hv.2.1 _ zm0 n_h0_q6).trans zf0) rfl hin6 2 (by decide) (by decide +kernel) rfl dX6_init_29 ?_
      refine lv_iload_n hx hb dX6_init_32 rfl (lv_at hl 1 rfl) ?_
      refine xp_new S X (ci := 0) (fs := [.null, .int ((0 : Int32))]) tyX0_ok rfl hin0 (by decide +kernel) (by decide +kernel) (by decide +kernel) (fun j hj => by rcases (show j = 0 ∨ j = 1 by omega) with rfl | rfl <;> rfl) (by show 2 + 2 * i + 1 ≤ 11; omega) (by show 10 + 10 * i + 2 ≤ 74; omega) dX6_init_33 (fun q20 H hq20 X => ?_)
      have k21 : (va_up f1 (q20) (.inr (0, [.null, .int ((0 : Int32))]))) (h0) = .inr (6, [.ref (q1), .int ((0 : Int32)), .ref (q6), .null, .int ((0 : Int32))]) := up_n ((hv.2.1 _ zm0 n_h0_q6).trans zf0) (fun q => hq20 (q ▸ (hv.1 _ zm0)))
      have k22 : (va_up f1 (q20) (.inr (0, [.null, .int ((0 : Int32))]))) (q6) = hAQ G 2 4 (gc) := up_n hv.2.2.1 (fun q => hq20 (q ▸ (hv.1 _ zmb)))
      have k23 : (va_up f1 (q20) (.inr (0, [.null, .int ((0 : Int32))]))) (q20) = .inr (0, [.null, .int ((0 : Int32))]) := va_up_s _ _ _
      refine lv_dup hx hb dX6_init_36 rfl ?_
      refine hx_INv (rest := [.ref (q20), .int (nI (i)), .ref (q6)]) S X (c_X0_init l G (L1 ++ [q20]) (va_up f1 (q20) (.inr (0, [.null, .int ((0 : Int32))]))) (q20) (List.mem_append_right _ (List.mem_singleton.mpr rfl)) k23) (host := RX6) (by decide +kernel) gX6_init_X0_init_n21 rfl (by decide +kernel) (by decide +kernel) rfl (n := 0) (by decide +kernel) rfl ⟨(Nat.le_of_ble_eq_true rfl), (Nat.le_of_ble_eq_true rfl)⟩ hl.1 rfl (Nat.le_of_ble_eq_true rfl) dX6_init_37 ⟨by show 2 + 2 * i + 1 + 1 ≤ 11; omega, by show 10 + 10 * i + 2 + 8 ≤ 74; omega⟩ (fun wd1 H locs hp X => ?_)
      obtain ⟨q24, hq24, rfl⟩ := hp
      have k25 : (va_up (va_up f1 (q20) (.inr (0, [.null, .int ((0 : Int32))]))) (q24) (hAQ G 5 8 (fun _ => none))) (h0) = .inr (6, [.ref (q1), .int ((0 : Int32)), .ref (q6), .null, .int ((0 : Int32))]) := up_n k21 (fun q => hq24 (q ▸ (List.mem_append_left _ (hv.1 _ zm0))))
      have k26 : (va_up (va_up f1 (q20) (.inr (0, [.null, .int ((0 : Int32))]))) (q24) (hAQ G 5 8 (fun _ => none))) (q6) = hAQ G 2 4 (gc) := up_n k22 (fun q => hq24 (q ▸ (List.mem_append_left _ (hv.1 _ zmb))))
      have k27 : (va_up (va_up f1 (q20) (.inr (0, [.null, .int ((0 : Int32))]))) (q24) (hAQ G 5 8 (fun _ => none))) (q20) = .inr (0, [.null, .int ((0 : Int32))]) := up_n k23 (fun q => hq24 (q ▸ (List.mem_append_right _ (List.mem_singleton.mpr rfl))))
      have k28 : (va_up (va_up f1 (q20) (.inr (0, [.null, .int ((0 : Int32))]))) (q24) (hAQ G 5 8 (fun _ => none))) (q24) = hAQ G 5 8 (fun _ => none) := va_up_s _ _ _
      have k29 : (va_up (va_up (va_up f1 (q20) (.inr (0, [.null, .int ((0 : Int32))]))) (q24) (hAQ G 5 8 (fun _ => none))) (q20) (.inr (0, [.ref (q24), .int ((0 : Int32))]))) (h0) = .inr (6, [.ref (q1), .int ((0 : Int32)), .ref (q6), .null, .int ((0 : Int32))]) := up_k k27 k25 (by simp)
      have k30 : (va_up (va_up (va_up f1 (q20) (.inr (0, [.null, .int ((0 : Int32))]))) (q24) (hAQ G 5 8 (fun _ => none))) (q20) (.inr (0, [.ref (q24), .int ((0 : Int32))]))) (q6) = hAQ G 2 4 (gc) := up_k k27 k26 (by simp)
      have k31 : (va_up (va_up (va_up f1 (q20) (.inr (0, [.null, .int ((0 : Int32))]))) (q24) (hAQ G 5 8 (fun _ => none))) (q20) (.inr (0, [.ref (q24), .int ((0 : Int32))]))) (q24) = hAQ G 5 8 (fun _ => none) := up_k k27 k28 (by simp)
      have k32 : (va_up (va_up (va_up f1 (q20) (.inr (0, [.null, .int ((0 : Int32))]))) (q24) (hAQ G 5 8 (fun _ => none))) (q20) (.inr (0, [.ref (q24), .int ((0 : Int32))]))) (q20) = .inr (0, [.ref (q24), .int ((0 : Int32))]) := va_up_s _ _ _
      refine xp_ast S X 2 (r := (RX0, TX0, 2)) rfl (List.mem_append_left _ (List.mem_append_left _ (hv.1 _ zmb))) k30 (List.mem_append_left _ (List.mem_append_right _ (List.mem_singleton.mpr rfl))) k32 rfl (j := i) (by omega) (by decide) dX6_init_40 (fun H locs X => ?_)
      have k33 : (va_up (va_up (va_up (va_up f1 (q20) (.inr (0, [.null, .int ((0 : Int32))]))) (q24) (hAQ G 5 8 (fun _ => none))) (q20) (.inr (0, [.ref (q24), .int ((0 : Int32))]))) (q6) (hAQ G 2 4 (va_up (gc) (i) (some (q20))))) (h0) = .inr (6, [.ref (q1), .int ((0 : Int32)), .ref (q6), .null, .int ((0 : Int32))]) := up_k k30 k29 (by simp)
      have k34 : (va_up (va_up (va_up (va_up f1 (q20) (.inr (0, [.null, .int ((0 : Int32))]))) (q24) (hAQ G 5 8 (fun _ => none))) (q20) (.inr (0, [.ref (q24), .int ((0 : Int32))]))) (q6) (hAQ G 2 4 (va_up (gc) (i) (some (q20))))) (q24) = hAQ G 5 8 (fun _ => none) := up_k k30 k31 (by simp)
      have k35 : (va_up (va_up (va_up (va_up f1 (q20) (.inr (0, [.null, .int ((0 : Int32))]))) (q24) (hAQ G 5 8 (fun _ => none))) (q20) (.inr (0, [.ref (q24), .int ((0 : Int32))]))) (q6) (hAQ G 2 4 (va_up (gc) (i) (some (q20))))) (q20) = .inr (0, [.ref (q24), .int ((0 : Int32))]) := up_k k30 k32 (by simp)
      have k36 : (va_up (va_up (va_up (va_up f1 (q20) (.inr (0, [.null, .int ((0 : Int32))]))) (q24) (hAQ G 5 8 (fun _ => none))) (q20) (.inr (0, [.ref (q24), .int ((0 : Int32))]))) (q6) (hAQ G 2 4 (va_up (gc) (i) (some (q20))))) (q6) = hAQ G 2 4 (va_up (gc) (i) (some (q20))) := va_up_s _ _ _
      refine lv_iinc (v := nI (i + 1)) (lv' := [(1, .int (nI (i + 1))), (0, .ref (h0))]) hx hb dX6_init_41 hl (k := 1) rfl (nI_add (i) 1) (by decide) rfl (fun ls hl => ?_)
      refine lv_goto (tgt := 23) hx hb dX6_init_44 (by decide) ?_
      refine W.widen (k := 2 + 2 * (i + 1)) (n := 10 + 10 * (i + 1)) (by show 2 + 2 * i + 1 + 1 ≤ _; omega) (by show 10 + 10 * i + 2 + 8 ≤ _; omega) ?_
      exact ih (i + 1) _ _ _ _ _ (by omega) (skI_step hv zmb hq20 hq24) _ _ _ X (lv_sub hl [1, 0] rfl)
  refine W.widen (k := 2 + 2 * 0) (n := 10 + 10 * 0) (Nat.le_of_ble_eq_true rfl) (Nat.le_of_ble_eq_true rfl) ?_
  exact loop 4 0 L0 f0 _ (fun _ => 0) (fun _ => 0) (by omega) ⟨fun _ h => h, fun _ _ _ => rfl, zfb, fun v h => by omega, fun v u h => by omega⟩ _ _ _ X (lv_sub hl [1, 0] rfl)
