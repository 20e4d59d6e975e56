noncomputable def M_addClass (σ : Sg) (fields : Int32) : Int32 × Sg := wif (0 ≤ fields ∧ fields ≤ 255) (wif (nC σ = 6) (-2000010, σ) (nI (nC σ), mS (mS (mS σ 1 (162 * nC σ + 0) 1) 1 (162 * nC σ + 2) fields) 0 0 (nI (nC σ + 1)))) (-2000007, σ)
noncomputable def M_stage (σ : Sg) (type : Int32) : Int32 × Sg := wif (isC σ type) (wif (σ 1 (162 * cN type + 1) = 1) (-2000009, σ) (wif (cnt σ (cN type) = 8) (-2000010, σ) (nI (cnt σ (cN type)), mS (mS (mS σ 1 (162 * cN type + 1) 1) 1 (162 * cN type + (2 + cnt σ (cN type))) (σ 1 (162 * cN type + (2 + cnt σ (cN type) - 1)))) 1 (162 * cN type + (10 + cnt σ (cN type))) 0))) (-2000001, σ)
def stB (σ : Sg) (t : Nat) : Nat := 162 * t + (18 + 18 * cnt σ t + 3 * stp σ t (cnt σ t))
noncomputable def M_append (σ : Sg) (t : Nat) (kind one two fs : Int32) : Int32 × Sg := wif (stp σ t (cnt σ t) = 6) (-2000010, σ) (nI (stp σ t (cnt σ t) + 1), mS (mS (mS (mS (mS σ 1 (stB σ t) kind) 1 (stB σ t + 1) one) 1 (stB σ t + 2) two) 1 (162 * t + (10 + cnt σ t)) (nI (stp σ t (cnt σ t) + 1))) 1 (162 * t + (2 + cnt σ t)) fs)
noncomputable def M_addField (σ : Sg) (type field value : Int32) : Int32 × Sg := wif (ws σ type = 0) (wif (isF field ∧ isVal value) (wif (hasF (sset σ (cN type)) field) (-2000009, σ) (M_append σ (cN type) 0 field value (sset σ (cN type) ||| (1 : Int32) <<< (field &&& 31)))) (-2000007, σ)) (ws σ type, σ)
noncomputable def M_dropField (σ : Sg) (type field : Int32) : Int32 × Sg := wif (ws σ type = 0) (wif (hasF (sset σ (cN type)) field) (M_append σ (cN type) 1 field 0 (sset σ (cN type) &&& (((1 : Int32) <<< (field &&& 31)) ^^^ (-1 : Int32)))) (-2000005, σ)) (ws σ type, σ)
noncomputable def M_renameField (σ : Sg) (type fr to : Int32) : Int32 × Sg := wif (ws σ type = 0) (wif (hasF (sset σ (cN type)) fr) (wif (isF to) (wif (hasF (sset σ (cN type)) to) (-2000009, σ) (M_append σ (cN type) 2 fr to ((sset σ (cN type) &&& (((1 : Int32) <<< (fr &&& 31)) ^^^ (-1 : Int32))) ||| (1 : Int32) <<< (to &&& 31)))) (-2000007, σ)) (-2000005, σ)) (ws σ type, σ)
noncomputable def M_scaleField (σ : Sg) (type field factor : Int32) : Int32 × Sg := wif (ws σ type = 0) (wif (hasF (sset σ (cN type)) field) (wif (-100000 ≤ factor ∧ factor ≤ 100000) (M_append σ (cN type) 3 field factor (sset σ (cN type))) (-2000007, σ)) (-2000005, σ)) (ws σ type, σ)
noncomputable def M_mergeField (σ : Sg) (type fr into : Int32) : Int32 × Sg := wif (ws σ type = 0) (wif (hasF (sset σ (cN type)) fr ∧ hasF (sset σ (cN type)) into) (wif (fr = into) (-2000007, σ) (M_append σ (cN type) 4 fr into (sset σ (cN type) &&& (((1 : Int32) <<< (fr &&& 31)) ^^^ (-1 : Int32))))) (-2000005, σ)) (ws σ type, σ)
noncomputable def M_activate (σ : Sg) (type : Int32) : Int32 × Sg := wif (ws σ type = 0) (nI (cnt σ (cN type) + 1) - 1, mS (mS σ 1 (162 * cN type + 1) 0) 1 (162 * cN type + 0) (nI (cnt σ (cN type) + 1))) (ws σ type, σ)
noncomputable def M_discard (σ : Sg) (type : Int32) : Int32 × Sg := wif (ws σ type = 0) (nI (stp σ (cN type) (cnt σ (cN type))), mS σ 1 (162 * cN type + 1) 0) (ws σ type, σ)
/-! threads and frames -/
noncomputable def M_call (σ : Sg) (thread type : Int32) : Int32 × Sg := wif (isT thread) (wif (isC σ type) (wif (dN σ (cN thread) = 8) (-2000010, σ) (nI (dN σ (cN thread) + 1), mS (mS (mS (mS σ 3 (8 * cN thread + dN σ (cN thread)) type) 4 (8 * cN thread + dN σ (cN thread)) (nI (cnt σ (cN type)) - 1)) 5 (8 * cN thread + dN σ (cN thread)) 0) 2 (cN thread) (nI (dN σ (cN thread) + 1)))) (-2000001, σ)) (-2000003, σ)
noncomputable def M_finish (σ : Sg) (thread : Int32) : Int32 × Sg := wif (isT thread) (wif (dN σ (cN thread) = 0) (-2000006, σ) (nI (dN σ (cN thread) - 1), mS σ 2 (cN thread) (nI (dN σ (cN thread) - 1)))) (-2000003, σ)
noncomputable def M_depth (σ : Sg) (thread : Int32) : Int32 × Sg := wif (isT thread) (nI (dN σ (cN thread)), σ) (-2000003, σ)
noncomputable def M_frameClass (σ : Sg) (thread index : Int32) : Int32 × Sg := wif (isT thread) (wif (∃ k, k < dN σ (cN thread) ∧ index = nI k) (σ 3 (8 * cN thread + cN index), σ) (-2000006, σ)) (-2000003, σ)
noncomputable def M_frameVersion (σ : Sg) (thread index : Int32) : Int32 × Sg := wif (isT thread) (wif (∃ k, k < dN σ (cN thread) ∧ index = nI k) (σ 4 (8 * cN thread + cN index), σ) (-2000006, σ)) (-2000003, σ)
/-- how many below n hold p -/
noncomputable def cnp (p : Nat → Prop) : Nat → Nat
  | 0 => 0
  | n + 1 => cnp p n + wif (p n) 1 0
theorem cnp_t {p : Nat → Prop} {n : Nat} (h : p n) : cnp p (n + 1) = cnp p n + 1 := by simp [cnp, wif_t h]
theorem cnp_f {p : Nat → Prop} {n : Nat} (h : ¬ p n) : cnp p (n + 1) = cnp p n := by simp [cnp, wif_f h]
def oldP (σ : Sg) (type : Int32) (j : Nat) : Prop := liv σ j ∧ σ 3 j = type ∧ ¬ σ 4 j = nI (cnt σ (cN type)) - 1
noncomputable def M_oldFrames (σ : Sg) (type : Int32) : Int32 × Sg := wif (isC σ type) (nI (cnp (oldP σ type) 32), σ) (-2000001, σ)
def runP (σ : Sg) (type version : Int32) (j : Nat) : Prop := liv σ j ∧ σ 3 j = type ∧ σ 4 j = version
def helP (σ : Sg) (o v : Int32) (j : Nat) : Prop := liv σ j ∧ pinB (σ 5 j) o ∧ σ 4 j < v
theorem ex_succ {p : Nat → Prop} {n : Nat} : (∃ j, j < n + 1 ∧ p j) ↔ (∃ j, j < n ∧ p j) ∨ p n := by
  constructor
  · rintro ⟨j, hj, h⟩
    rcases Nat.lt_or_ge j n with q | q
    · exact Or.inl ⟨j, q, h⟩
    · exact Or.inr ((show j = n by omega) ▸ h)
  · rintro (⟨j, hj, h⟩ | h)
    · exact ⟨j, by omega, h⟩
    · exact ⟨n, by omega, h⟩
theorem ex_stop {r : Int32} {p : Nat → Prop} {n : Nat} (h : isB r (∃ j, j < n ∧ p j)) (h0 : ¬ r = 0) : isB 1 (∃ j, j < n + 1 ∧ p j) := by
  by_cases q : ∃ j, j < n ∧ p j
  · exact isB_t (ex_succ.mpr (Or.inl q)) rfl
  · exact absurd (h.2 q) h0
theorem ex_yes {p : Nat → Prop} {n : Nat} (h : p n) : isB 1 (∃ j, j < n + 1 ∧ p j) := isB_t (ex_succ.mpr (Or.inr h)) rfl
theorem ex_no {r : Int32} {p : Nat → Prop} {n : Nat} (h : isB r (∃ j, j < n ∧ p j)) (h0 : r = 0) (hp : ¬ p n) : isB 0 (∃ j, j < n + 1 ∧ p j) := by
  refine isB_f (fun q => ?_) rfl
  rcases ex_succ.mp q with q | q
  · rw [h.1 q] at h0
    exact absurd h0 (by decide)
  · exact hp q
theorem ex_0 {p : Nat → Prop} : isB 0 (∃ j, j < 0 ∧ p j) := isB_f (fun ⟨j, hj, _⟩ => by omega) rfl
/-! rollback -/
def dlL (σ : Sg) (o : Nat) : Nat → Sg
  | 0 => mS σ 6 o 0
  | n + 1 => mS (dlL σ o n) 5 n (dlL σ o n 5 n &&& (((1 : Int32) <<< (nI o &&& 31)) ^^^ (-1 : Int32)))
def M_delete (σ : Sg) (o : Nat) : Sg := dlL σ o 32
noncomputable def rbL (σ : Sg) (type ver : Int32) : Nat → Sg
  | 0 => σ
  | n + 1 => wif (¬ rbL σ type ver n 6 n = 0 ∧ rbL σ type ver n 7 n = type ∧ rbL σ type ver n 8 n = ver) (wif (rbL σ type ver n 9 n = ver) (M_delete (rbL σ type ver n) n) (mS (rbL σ type ver n) 8 n (rbL σ type ver n 8 n - 1))) (rbL σ type ver n)
noncomputable def M_rollback (σ : Sg) (type : Int32) : Int32 × Sg := wif (isC σ type) (wif (cnt σ (cN type) - 1 = 0) (-2000002, σ) (wif (∃ j, j < 32 ∧ runP σ type (nI (cnt σ (cN type) - 1)) j) (-2000015, σ) (nI (cnt σ (cN type) - 1) - 1, mS (mS (rbL σ type (nI (cnt σ (cN type) - 1)) (nO σ)) 1 (162 * cN type + 1) 0) 1 (162 * cN type + 0) (nI (cnt σ (cN type) - 1))))) (-2000001, σ)
theorem dlL_k {σ : Sg} {o : Nat} (n : Nat) {k : Nat} (h5 : k ≠ 5) (h6 : k ≠ 6) (j : Nat) : dlL σ o n k j = σ k j := by
  induction n with
  | zero => exact mS_nk _ _ _ _ h6
  | succ n ih => rw [dlL, mS_nk _ _ _ _ h5, ih]
theorem rbL_k {σ : Sg} {type ver : Int32} (n : Nat) {k : Nat} (h5 : k ≠ 5) (h6 : k ≠ 6) (h8 : k ≠ 8) (j : Nat) : rbL σ type ver n k j = σ k j := by
  induction n with
  | zero => rfl
  | succ n ih =>
    rw [rbL]
    by_cases h : (¬ rbL σ type ver n 6 n = 0 ∧ rbL σ type ver n 7 n = type ∧ rbL σ type ver n 8 n = ver)
    · rw [wif_t h]
      by_cases h2 : rbL σ type ver n 9 n = ver
      · rw [wif_t h2, M_delete, dlL_k _ h5 h6, ih]
      · rw [wif_f h2, mS_nk _ _ _ _ h8, ih]
    · rw [wif_f h, ih]
set_option maxRecDepth 100000 in
set_option maxHeartbeats 4000000 in
theorem c_X7_addClass (l : Launch) (G : hG) (ad : Nat → Nat) (σ : Sg) (fields : Int32) (hI : Inv σ) : hMi l G yX7_addClass wsX7_addClass ({ frames := 1, cells := 0, slots := 0, locals := 22 } : Room) (mW G ad σ) [.ref (ad 0), .int (fields)] (fun r w => r = (M_addClass σ fields).1 ∧ w = mW G ad (M_addClass σ fields).2) := by
  refine hMi.of (cc := cX7_addClass) (maxL := 2) (some .int) RX7 rfl (by decide +kernel) rfl (Nat.le_of_ble_eq_true rfl) ?_
  intro p e s m args below meth c S hr hlk X ls hl
  have hx := S.1
  have hb := S.2.1
  have hown := S.2.2.2.1
  have hts := S.2.2.2.2
  have hl : lv_has ls 2 [(0, .ref (ad 0)), (1, .int (fields))] := hl
  have hin7 : ∀ w ∈ wsX70, w ∈ wsX7_addClass := by decide +kernel
  have hC6 : nC σ ≤ 6 := hI.1.2
  have hO24 : nO σ ≤ 24 := hI.2.1.2
  refine lv_iload_n hx hb dX7_addClass_0 rfl (lv_at hl 1 rfl) ?_
  refine lv_iconst (v := 0) hx hb dX7_addClass_1 (by decide) ?_
  refine lv_sipush (v := 255) hx hb dX7_addClass_2 (by decide) ?_
  refine hx_Si (rest := []) S X (c_X7_in l G _ (fields) ((0 : Int32)) ((255 : Int32))) gX7_addClass_X7_in rfl (n := 3) (by decide +kernel) rfl ⟨(Nat.le_of_ble_eq_true rfl), (Nat.le_of_ble_eq_true rfl)⟩ hl.1 rfl (Nat.le_of_ble_eq_true rfl) dX7_addClass_5 ⟨(Nat.le_of_ble_eq_true rfl), (Nat.le_of_ble_eq_true rfl)⟩ (fun r wd1 H locs hp X => ?_)
  obtain ⟨hr5, rfl⟩ := hp
  by_cases h5 : 0 ≤ fields ∧ fields ≤ 255
  · skip
    refine hx_ei (hr5.1 h5) ?_
    refine lv_if_ne (tgt := 14) hx hb dX7_addClass_8 (by decide) (fun _ => ?_) (fun c9 => absurd c9 (by decide))
    refine lv_aload_n hx hb dX7_addClass_14 rfl (lv_at hl 0 rfl) ?_
    refine hx_getL S X (ci := 7) 0 (mW_0 _ _ _) rfl hin7 0 (by decide) (by decide +kernel) rfl dX7_addClass_15 ?_
    refine hx_ei (show _ = nI (nC σ) from hI.1.1) ?_
    refine lv_bipush (v := 6) hx hb dX7_addClass_18 (by decide) ?_
    refine lv_icmp_ne (tgt := 26) hx hb dX7_addClass_20 (by decide) (fun c20 => ?_) (fun c20 => ?_)
    · skip
      have c20 := (not_congr (nI_eq (a := nC σ) (b := 6) (by omega) (by omega))).mp c20
      refine lv_aload_n hx hb dX7_addClass_26 rfl (lv_at hl 0 rfl) ?_
      refine hx_getL S X (ci := 7) 0 (mW_0 _ _ _) rfl hin7 1 (by decide) (by decide +kernel) rfl dX7_addClass_27 ?_
      refine lv_aload_n hx hb dX7_addClass_30 rfl (lv_at hl 0 rfl) ?_
      refine hx_getL S X (ci := 7) 0 (mW_0 _ _ _) rfl hin7 0 (by decide) (by decide +kernel) rfl dX7_addClass_31 ?_
      refine hx_ei (show _ = nI (nC σ) from hI.1.1) ?_
      refine lv_iconst (v := 0) hx hb dX7_addClass_34 (by decide) ?_
      refine hx_Si (rest := [.ref (ad 1)]) S X (c_X7_at l G _ (nC σ) (0)) gX7_addClass_X7_at rfl (n := 2) (by decide +kernel) rfl ⟨(Nat.le_of_ble_eq_true rfl), (Nat.le_of_ble_eq_true rfl)⟩ hl.1 rfl (Nat.le_of_ble_eq_true rfl) dX7_addClass_35 ⟨(Nat.le_of_ble_eq_true rfl), (Nat.le_of_ble_eq_true rfl)⟩ (fun r wd1 H locs hp X => ?_)
      obtain ⟨rfl, rfl⟩ := hp
      refine lv_iconst (v := 1) hx hb dX7_addClass_38 (by decide) ?_
      refine mx_st S X 1 (N := 972) (mW_1 _ _ _) (j := 162 * (nC σ) + 0) (by omega) (by decide) (x := (1 : Int32)) dX7_addClass_39 (mW_s1 _ _ _ _ _) (fun H locs X => ?_)
      refine lv_aload_n hx hb dX7_addClass_40 rfl (lv_at hl 0 rfl) ?_
      refine hx_getL S X (ci := 7) 0 (mW_0 _ _ _) rfl hin7 1 (by decide) (by decide +kernel) rfl dX7_addClass_41 ?_
      refine lv_aload_n hx hb dX7_addClass_44 rfl (lv_at hl 0 rfl) ?_
      refine hx_getL S X (ci := 7) 0 (mW_0 _ _ _) rfl hin7 0 (by decide) (by decide +kernel) rfl dX7_addClass_45 ?_
      refine hx_ei (show _ = nI (nC σ) from by rw [mS_nk _ _ _ _ (by decide)]; exact hI.1.1) ?_
      refine lv_iconst (v := 2) hx hb dX7_addClass_48 (by decide) ?_
      refine hx_Si (rest := [.ref (ad 1)]) S X (c_X7_at l G _ (nC σ) (2)) gX7_addClass_X7_at rfl (n := 2) (by decide +kernel) rfl ⟨(Nat.le_of_ble_eq_true rfl), (Nat.le_of_ble_eq_true rfl)⟩ hl.1 rfl (Nat.le_of_ble_eq_true rfl) dX7_addClass_49 ⟨(Nat.le_of_ble_eq_true rfl), (Nat.le_of_ble_eq_true rfl)⟩ (fun r wd1 H locs hp X => ?_)
      obtain ⟨rfl, rfl⟩ := hp
      refine lv_iload_n hx hb dX7_addClass_52 rfl (lv_at hl 1 rfl) ?_
      refine mx_st S X 1 (N := 972) (mW_1 _ _ _) (j := 162 * (nC σ) + 2) (by omega) (by decide) (x := fields) dX7_addClass_53 (mW_s1 _ _ _ _ _) (fun H locs X => ?_)
      refine lv_aload_n hx hb dX7_addClass_54 rfl (lv_at hl 0 rfl) ?_
      refine lv_dup hx hb dX7_addClass_55 rfl ?_
      refine hx_getL S X (ci := 7) 0 (mW_0 _ _ _) rfl hin7 0 (by decide) (by decide +kernel) rfl dX7_addClass_56 ?_
      refine hx_ei (show _ = nI (nC σ) from by rw [mS_nk _ _ _ _ (by decide), mS_nk _ _ _ _ (by decide)]; exact hI.1.1) ?_
      refine lv_iconst (v := 1) hx hb dX7_addClass_59 (by decide) ?_
      refine lv_iadd hx hb dX7_addClass_60 ?_
      refine hx_ei (show _ = nI (nC σ + 1) from nI_add (nC σ) (1)) ?_
      refine hx_putL S X (ci := 7) tyX7_ok nmX7 0 (mW_0 _ _ _) rfl hin7 0 (by decide) (by decide +kernel) rfl rfl rfl (Nat.le_of_ble_eq_true rfl) dX7_addClass_61 (wd' := mW G ad (mS (mS (mS σ 1 (162 * (nC σ) + 0) ((1 : Int32))) 1 (162 * (nC σ) + 2) (fields)) 0 0 (nI (nC σ + 1)))) (mW_pc _ _ _ _) (fun H locs X => ?_)
      refine lv_aload_n hx hb dX7_addClass_64 rfl (lv_at hl 0 rfl) ?_
      refine hx_getL S X (ci := 7) 0 (mW_0 _ _ _) rfl hin7 0 (by decide) (by decide +kernel) rfl dX7_addClass_65 ?_
      refine hx_ei (show _ = nI (nC σ + 1) from by rw [mS_eq]) ?_
      refine lv_iconst (v := 1) hx hb dX7_addClass_68 (by decide) ?_
      refine lv_isub hx hb dX7_addClass_69 ?_
      refine hx_ei (show _ = nI (nC σ) from nI_pred (nC σ)) ?_
      exact hx_iret S X hr hlk (Nat.le_of_ble_eq_true rfl) (Nat.le_of_ble_eq_true rfl) (by simp [M_addClass, wif_t, wif_f, h5, c20]) dX7_addClass_70
    · skip
      have c20 := (nI_eq (a := nC σ) (b := 6) (by omega) (by omega)).mp c20
      refine lv_ldc (v := -2000010) hx hb hown (hts (Cond.constant RX7 57 (-2000010)) (by decide +kernel)) dX7_addClass_23 ?_
      exact hx_iret S X hr hlk (Nat.le_of_ble_eq_true rfl) (Nat.le_of_ble_eq_true rfl) (by simp [M_addClass, wif_t, wif_f, h5, c20]) dX7_addClass_25
  · skip
    refine hx_ei (hr5.2 h5) ?_
    refine lv_if_ne (tgt := 14) hx hb dX7_addClass_8 (by decide) (fun c9 => absurd (by decide) c9) (fun _ => ?_)
    refine lv_ldc (v := -2000007) hx hb hown (hts (Cond.constant RX7 56 (-2000007)) (by decide +kernel)) dX7_addClass_11 ?_
    exact hx_iret S X hr hlk (Nat.le_of_ble_eq_true rfl) (Nat.le_of_ble_eq_true rfl) (by simp [M_addClass, wif_t, wif_f, h5]) dX7_addClass_13

set_option maxRecDepth 100000 in
set_option maxHeartbeats 4000000 in
theorem c_X7_stage (l : Launch) (G : hG) (ad : Nat → Nat) (σ : Sg) (type : Int32) (hI : Inv σ) : hMi l G yX7_stage wsX7_stage ({ frames := 2, cells := 0, slots := 0, locals := 43 } : Room) (mW G ad σ) [.ref (ad 0), .int (type)] (fun r w => r = (M_stage σ type).1 ∧ w = mW G ad (M_stage σ type).2) := by
  refine hMi.of (cc := cX7_stage) (maxL := 3) (some .int) RX7 rfl (by decide +kernel) rfl (Nat.le_of_ble_eq_true rfl) ?_
  intro p e s m args below meth c S hr hlk X ls hl
  have hx := S.1
  have hb := S.2.1
  have hown := S.2.2.2.1
  have hts := S.2.2.2.2
  have hl : lv_has ls 3 [(0, .ref (ad 0)), (1, .int (type))] := hl
  have hin7 : ∀ w ∈ wsX70, w ∈ wsX7_stage := by decide +kernel
  have hC6 : nC σ ≤ 6 := hI.1.2
  have hO24 : nO σ ≤ 24 := hI.2.1.2
  refine lv_aload_n hx hb dX7_stage_0 rfl (lv_at hl 0 rfl) ?_
  refine lv_iload_n hx hb dX7_stage_1 rfl (lv_at hl 1 rfl) ?_
  refine hx_Vi (rest := []) S X (c_X7_isClass l G ad σ (type) hI) gX7_stage_X7_isClass rfl (n := 1) (by decide +kernel) rfl ⟨(Nat.le_of_ble_eq_true rfl), (Nat.le_of_ble_eq_true rfl)⟩ (hx_recvL (q0 := 0) (ci := 7) X rfl (mW_0 _ _ _)) hl.1 rfl (Nat.le_of_ble_eq_true rfl) dX7_stage_2 ⟨(Nat.le_of_ble_eq_true rfl), (Nat.le_of_ble_eq_true rfl)⟩ (fun r wd1 H locs hp X => ?_)
  obtain ⟨hr2, rfl⟩ := hp
  by_cases h2 : isC σ (type)
  · skip
    refine hx_ei (hr2.1 h2) ?_
    have h2' := h2
    obtain ⟨t, ht, rfl⟩ := h2
    have hct : (nI t).toNatClampNeg = t := nI_clamp (by omega)
    obtain ⟨⟨hk0, hk1, hk2⟩, hks, hkv⟩ := hI.2.2.1 t ht
    refine lv_if_ne (tgt := 11) hx hb dX7_stage_5 (by decide) (fun _ => ?_) (fun c9 => absurd c9 (by decide))
    refine lv_aload_n hx hb dX7_stage_11 rfl (lv_at hl 0 rfl) ?_
    refine lv_iload_n hx hb dX7_stage_12 rfl (lv_at hl 1 rfl) ?_
    refine lv_iconst (v := 1) hx hb dX7_stage_13 (by decide) ?_
    refine hx_Vi (rest := []) S X (c_X7_of l G ad σ (t) (1) (by omega)) gX7_stage_X7_of rfl (n := 2) (by decide +kernel) rfl ⟨(Nat.le_of_ble_eq_true rfl), (Nat.le_of_ble_eq_true rfl)⟩ (hx_recvL (q0 := 0) (ci := 7) X rfl (mW_0 _ _ _)) hl.1 rfl (Nat.le_of_ble_eq_true rfl) dX7_stage_14 ⟨(Nat.le_of_ble_eq_true rfl), (Nat.le_of_ble_eq_true rfl)⟩ (fun r wd1 H locs hp X => ?_)
    obtain ⟨rfl, rfl⟩ := hp
    refine hx_ei (show _ = σ 1 (162 * t + 1) from rfl) ?_
    refine lv_iconst (v := 1) hx hb dX7_stage_17 (by decide) ?_
    refine lv_icmp_ne (tgt := 24) hx hb dX7_stage_18 (by decide) (fun c18 => ?_) (fun c18 => ?_)
    · skip
      refine lv_aload_n hx hb dX7_stage_24 rfl (lv_at hl 0 rfl) ?_
      refine lv_iload_n hx hb dX7_stage_25 rfl (lv_at hl 1 rfl) ?_
      refine lv_iconst (v := 0) hx hb dX7_stage_26 (by decide) ?_
      refine hx_Vi (rest := []) S X (c_X7_of l G ad σ (t) (0) (by omega)) gX7_stage_X7_of rfl (n := 2) (by decide +kernel) rfl ⟨(Nat.le_of_ble_eq_true rfl), (Nat.le_of_ble_eq_true rfl)⟩ (hx_recvL (q0 := 0) (ci := 7) X rfl (mW_0 _ _ _)) hl.1 rfl (Nat.le_of_ble_eq_true rfl) dX7_stage_27 ⟨(Nat.le_of_ble_eq_true rfl), (Nat.le_of_ble_eq_true rfl)⟩ (fun r wd1 H locs hp X => ?_)
      obtain ⟨rfl, rfl⟩ := hp
      refine hx_ei (show _ = nI (cnt σ t) from hk0) ?_
      refine lv_istore_n (lv' := [(2, .int (nI (cnt σ t))), (0, .ref (ad 0)), (1, .int (nI (t)))]) hx hb dX7_stage_30 rfl hl (by decide) rfl (fun ls hl => ?_)
      refine lv_iload_n hx hb dX7_stage_31 rfl (lv_at hl 0 rfl) ?_
      refine lv_bipush (v := 8) hx hb dX7_stage_32 (by decide) ?_
      refine lv_icmp_ne (tgt := 40) hx hb dX7_stage_34 (by decide) (fun c34 => ?_) (fun c34 => ?_)
      · skip
        have c34 := (not_congr (nI_eq (a := cnt σ t) (b := 8) (by omega) (by omega))).mp c34
        refine lv_aload_n hx hb dX7_stage_40 rfl (lv_at hl 1 rfl) ?_
        refine hx_getL S X (ci := 7) 0 (mW_0 _ _ _) rfl hin7 1 (by decide) (by decide +kernel) rfl dX7_stage_41 ?_
        refine lv_iload_n hx hb dX7_stage_44 rfl (lv_at hl 2 rfl) ?_
        refine lv_iconst (v := 1) hx hb dX7_stage_45 (by decide) ?_
        refine hx_Si (rest := [.ref (ad 1)]) S X (c_X7_at l G _ (t) (1)) gX7_stage_X7_at rfl (n := 2) (by decide +kernel) rfl ⟨(Nat.le_of_ble_eq_true rfl), (Nat.le_of_ble_eq_true rfl)⟩ hl.1 rfl (Nat.le_of_ble_eq_true rfl) dX7_stage_46 ⟨(Nat.le_of_ble_eq_true rfl), (Nat.le_of_ble_eq_true rfl)⟩ (fun r wd1 H locs hp X => ?_)
        obtain ⟨rfl, rfl⟩ := hp
        refine lv_iconst (v := 1) hx hb dX7_stage_49 (by decide) ?_
        refine mx_st S X 1 (N := 972) (mW_1 _ _ _) (j := 162 * t + 1) (by omega) (by decide) (x := (1 : Int32)) dX7_stage_50 (mW_s1 _ _ _ _ _) (fun H locs X => ?_)
        refine lv_aload_n hx hb dX7_stage_51 rfl (lv_at hl 1 rfl) ?_
        refine hx_getL S X (ci := 7) 0 (mW_0 _ _ _) rfl hin7 1 (by decide) (by decide +kernel) rfl dX7_stage_52 ?_
        refine lv_iload_n hx hb dX7_stage_55 rfl (lv_at hl 2 rfl) ?_
        refine lv_iconst (v := 2) hx hb dX7_stage_56 (by decide) ?_
        refine lv_iload_n hx hb dX7_stage_57 rfl (lv_at hl 0 rfl) ?_
        refine lv_iadd hx hb dX7_stage_58 ?_
        refine hx_ei (show _ = nI (2 + cnt σ t) from nI_add (2) (cnt σ t)) ?_
        refine hx_Si (rest := [.ref (ad 1)]) S X (c_X7_at l G _ (t) (2 + cnt σ t)) gX7_stage_X7_at rfl (n := 2) (by decide +kernel) rfl ⟨(Nat.le_of_ble_eq_true rfl), (Nat.le_of_ble_eq_true rfl)⟩ hl.1 rfl (Nat.le_of_ble_eq_true rfl) dX7_stage_59 ⟨(Nat.le_of_ble_eq_true rfl), (Nat.le_of_ble_eq_true rfl)⟩ (fun r wd1 H locs hp X => ?_)
        obtain ⟨rfl, rfl⟩ := hp
        refine lv_aload_n hx hb dX7_stage_62 rfl (lv_at hl 1 rfl) ?_
        refine lv_iload_n hx hb dX7_stage_63 rfl (lv_at hl 2 rfl) ?_
        refine lv_iconst (v := 2) hx hb dX7_stage_64 (by decide) ?_
        refine lv_iload_n hx hb dX7_stage_65 rfl (lv_at hl 0 rfl) ?_
        refine lv_iadd hx hb dX7_stage_66 ?_
        refine hx_ei (show _ = nI (2 + cnt σ t) from nI_add (2) (cnt σ t)) ?_
        refine lv_iconst (v := 1) hx hb dX7_stage_67 (by decide) ?_
        refine lv_isub hx hb dX7_stage_68 ?_
        refine hx_ei (show _ = nI ((2 + cnt σ t) - (1)) from pk_sub (a := 2 + cnt σ t) (b := 1) (by omega)) ?_
        refine hx_Vi (rest := [.int (nI (162 * t + (2 + cnt σ t))), .ref (ad 1)]) S X (c_X7_of l G ad (mS σ 1 (162 * t + 1) ((1 : Int32))) (t) ((2 + cnt σ t) - (1)) (by omega)) gX7_stage_X7_of rfl (n := 2) (by decide +kernel) rfl ⟨(Nat.le_of_ble_eq_true rfl), (Nat.le_of_ble_eq_true rfl)⟩ (hx_recvL (q0 := 0) (ci := 7) X rfl (mW_0 _ _ _)) hl.1 rfl (Nat.le_of_ble_eq_true rfl) dX7_stage_69 ⟨(Nat.le_of_ble_eq_true rfl), (Nat.le_of_ble_eq_true rfl)⟩ (fun r wd1 H locs hp X => ?_)
        obtain ⟨rfl, rfl⟩ := hp
        refine hx_ei (show _ = σ 1 (162 * t + ((2 + cnt σ t) - (1))) from by rw [mS_ne _ _ _ (by omega)]) ?_
        refine mx_st S X 1 (N := 972) (mW_1 _ _ _) (j := 162 * t + (2 + cnt σ t)) (by omega) (by decide) (x := σ 1 (162 * t + ((2 + cnt σ t) - (1)))) dX7_stage_72 (mW_s1 _ _ _ _ _) (fun H locs X => ?_)
        refine lv_aload_n hx hb dX7_stage_73 rfl (lv_at hl 1 rfl) ?_
        refine hx_getL S X (ci := 7) 0 (mW_0 _ _ _) rfl hin7 1 (by decide) (by decide +kernel) rfl dX7_stage_74 ?_
        refine lv_iload_n hx hb dX7_stage_77 rfl (lv_at hl 2 rfl) ?_
        refine lv_bipush (v := 10) hx hb dX7_stage_78 (by decide) ?_
        refine lv_iload_n hx hb dX7_stage_80 rfl (lv_at hl 0 rfl) ?_
        refine lv_iadd hx hb dX7_stage_81 ?_
        refine hx_ei (show _ = nI (10 + cnt σ t) from nI_add (10) (cnt σ t)) ?_
        refine hx_Si (rest := [.ref (ad 1)]) S X (c_X7_at l G _ (t) (10 + cnt σ t)) gX7_stage_X7_at rfl (n := 2) (by decide +kernel) rfl ⟨(Nat.le_of_ble_eq_true rfl), (Nat.le_of_ble_eq_true rfl)⟩ hl.1 rfl (Nat.le_of_ble_eq_true rfl) dX7_stage_82 ⟨(Nat.le_of_ble_eq_true rfl), (Nat.le_of_ble_eq_true rfl)⟩ (fun r wd1 H locs hp X => ?_)
        obtain ⟨rfl, rfl⟩ := hp
        refine lv_iconst (v := 0) hx hb dX7_stage_85 (by decide) ?_
        refine mx_st S X 1 (N := 972) (mW_1 _ _ _) (j := 162 * t + (10 + cnt σ t)) (by omega) (by decide) (x := (0 : Int32)) dX7_stage_86 (mW_s1 _ _ _ _ _) (fun H locs X => ?_)
        refine lv_iload_n hx hb dX7_stage_87 rfl (lv_at hl 0 rfl) ?_
        exact hx_iret S X hr hlk (Nat.le_of_ble_eq_true rfl) (Nat.le_of_ble_eq_true rfl) (by simp [M_stage, wif_t, wif_f, h2', hct, c18, c34]) dX7_stage_88
      · skip
        have c34 := (nI_eq (a := cnt σ t) (b := 8) (by omega) (by omega)).mp c34
        refine lv_ldc (v := -2000010) hx hb hown (hts (Cond.constant RX7 57 (-2000010)) (by decide +kernel)) dX7_stage_37 ?_
        exact hx_iret S X hr hlk (Nat.le_of_ble_eq_true rfl) (Nat.le_of_ble_eq_true rfl) (by simp [M_stage, wif_t, wif_f, h2', hct, c18, c34]) dX7_stage_39
    · skip
      refine lv_ldc (v := -2000009) hx hb hown (hts (Cond.constant RX7 68 (-2000009)) (by decide +kernel)) dX7_stage_21 ?_
      exact hx_iret S X hr hlk (Nat.le_of_ble_eq_true rfl) (Nat.le_of_ble_eq_true rfl) (by simp [M_stage, wif_t, wif_f, h2', hct, c18]) dX7_stage_23
  · skip
    refine hx_ei (hr2.2 h2) ?_
    refine lv_if_ne (tgt := 11) hx hb dX7_stage_5 (by decide) (fun c9 => absurd (by decide) c9) (fun _ => ?_)
    refine lv_ldc (v := -2000001) hx hb hown (hts (Cond.constant RX7 66 (-2000001)) (by decide +kernel)) dX7_stage_8 ?_
    exact hx_iret S X hr hlk (Nat.le_of_ble_eq_true rfl) (Nat.le_of_ble_eq_true rfl) (by simp [M_stage, wif_t, wif_f, h2]) dX7_stage_10

set_option maxRecDepth 100000 in
set_option maxHeartbeats 4000000 in
theorem c_X7_append (l : Launch) (G : hG) (ad : Nat → Nat) (σ : Sg) (t : Nat) (kind one two fs : Int32) (hI : Inv σ) (ht : t < nC σ) (h7 : cnt σ t ≤ 7) : hMi l G yX7_append wsX7_append ({ frames := 2, cells := 0, slots := 0, locals := 43 } : Room) (mW G ad σ) [.ref (ad 0), .int (nI (t)), .int (kind), .int (one), .int (two), .int (fs)] (fun r w => r = (M_append σ t kind one two fs).1 ∧ w = mW G ad (M_append σ t kind one two fs).2) := by
  refine hMi.of (cc := cX7_append) (maxL := 9) (some .int) RX7 rfl (by decide +kernel) rfl (Nat.le_of_ble_eq_true rfl) ?_
  intro p e s m args below meth c S hr hlk X ls hl
  have hx := S.1
  have hb := S.2.1
  have hown := S.2.2.2.1
  have hts := S.2.2.2.2
  have hl : lv_has ls 9 [(0, .ref (ad 0)), (1, .int (nI (t))), (2, .int (kind)), (3, .int (one)), (4, .int (two)), (5, .int (fs))] := hl
  have hin7 : ∀ w ∈ wsX70, w ∈ wsX7_append := by decide +kernel
  have hC6 : nC σ ≤ 6 := hI.1.2
  obtain ⟨⟨hk0, hk1, hk2⟩, hks, hkv⟩ := hI.2.2.1 t ht
  obtain ⟨⟨hn0, hn1⟩, -⟩ := hkv (cnt σ t) (by omega)
  refine lv_aload_n hx hb dX7_append_0 rfl (lv_at hl 0 rfl) ?_
  refine lv_iload_n hx hb dX7_append_1 rfl (lv_at hl 1 rfl) ?_
  refine lv_iconst (v := 0) hx hb dX7_append_2 (by decide) ?_
  refine hx_Vi (rest := []) S X (c_X7_of l G ad σ (t) (0) (by omega)) gX7_append_X7_of rfl (n := 2) (by decide +kernel) rfl ⟨(Nat.le_of_ble_eq_true rfl), (Nat.le_of_ble_eq_true rfl)⟩ (hx_recvL (q0 := 0) (ci := 7) X rfl (mW_0 _ _ _)) hl.1 rfl (Nat.le_of_ble_eq_true rfl) dX7_append_3 ⟨(Nat.le_of_ble_eq_true rfl), (Nat.le_of_ble_eq_true rfl)⟩ (fun r wd1 H locs hp X => ?_)
  obtain ⟨rfl, rfl⟩ := hp
  refine hx_ei (show _ = nI (cnt σ t) from hk0) ?_
  refine lv_istore (lv' := [(6, .int (nI (cnt σ t))), (0, .ref (ad 0)), (1, .int (nI (t))), (2, .int (kind)), (3, .int (one)), (4, .int (two)), (5, .int (fs))]) hx hb dX7_append_6 hl (by decide) rfl (fun ls hl => ?_)
  refine lv_aload_n hx hb dX7_append_8 rfl (lv_at hl 1 rfl) ?_
  refine lv_iload_n hx hb dX7_append_9 rfl (lv_at hl 2 rfl) ?_
  refine lv_bipush (v := 10) hx hb dX7_append_10 (by decide) ?_
  refine lv_iload hx hb dX7_append_12 (lv_at hl 0 rfl) ?_
  refine lv_iadd hx hb dX7_append_14 ?_
  refine hx_ei (show _ = nI (10 + cnt σ t) from nI_add (10) (cnt σ t)) ?_
  refine hx_Vi (rest := []) S X (c_X7_of l G ad σ (t) (10 + cnt σ t) (by omega)) gX7_append_X7_of rfl (n := 2) (by decide +kernel) rfl ⟨(Nat.le_of_ble_eq_true rfl), (Nat.le_of_ble_eq_true rfl)⟩ (hx_recvL (q0 := 0) (ci := 7) X rfl (mW_0 _ _ _)) hl.1 rfl (Nat.le_of_ble_eq_true rfl) dX7_append_15 ⟨(Nat.le_of_ble_eq_true rfl), (Nat.le_of_ble_eq_true rfl)⟩ (fun r wd1 H locs hp X => ?_)
  obtain ⟨rfl, rfl⟩ := hp
  refine hx_ei (show _ = nI (stp σ t (cnt σ t)) from hn0) ?_
  refine lv_istore (lv' := [(7, .int (nI (stp σ t (cnt σ t)))), (6, .int (nI (cnt σ t))), (0, .ref (ad 0)), (1, .int (nI (t))), (2, .int (kind)), (3, .int (one)), (4, .int (two)), (5, .int (fs))]) hx hb dX7_append_18 hl (by decide) rfl (fun ls hl => ?_)
  refine lv_iload hx hb dX7_append_20 (lv_at hl 0 rfl) ?_
  refine lv_bipush (v := 6) hx hb dX7_append_22 (by decide) ?_
  refine lv_icmp_ne (tgt := 30) hx hb dX7_append_24 (by decide) (fun c24 => ?_) (fun c24 => ?_)
  · skip
    have c24 := (not_congr (nI_eq (a := stp σ t (cnt σ t)) (b := 6) (by omega) (by omega))).mp c24
    refine lv_iload_n hx hb dX7_append_30 rfl (lv_at hl 3 rfl) ?_
    refine lv_bipush (v := 18) hx hb dX7_append_31 (by decide) ?_
    refine lv_bipush (v := 18) hx hb dX7_append_33 (by decide) ?_
    refine lv_iload hx hb dX7_append_35 (lv_at hl 1 rfl) ?_
    refine lv_imul hx hb dX7_append_37 ?_
    refine hx_ei (show _ = nI ((18) * (cnt σ t)) from pk_mul (18) (cnt σ t)) ?_
    refine lv_iadd hx hb dX7_append_38 ?_
    refine hx_ei (show _ = nI (18 + (18) * (cnt σ t)) from nI_add (18) ((18) * (cnt σ t))) ?_
    refine lv_iconst (v := 3) hx hb dX7_append_39 (by decide) ?_
    refine lv_iload hx hb dX7_append_40 (lv_at hl 0 rfl) ?_
    refine lv_imul hx hb dX7_append_42 ?_
    refine hx_ei (show _ = nI ((3) * (stp σ t (cnt σ t))) from pk_mul (3) (stp σ t (cnt σ t))) ?_
    refine lv_iadd hx hb dX7_append_43 ?_
    refine hx_ei (show _ = nI (18 + (18) * (cnt σ t) + (3) * (stp σ t (cnt σ t))) from nI_add (18 + (18) * (cnt σ t)) ((3) * (stp σ t (cnt σ t)))) ?_
    refine hx_Si (rest := []) S X (c_X7_at l G _ (t) (18 + (18) * (cnt σ t) + (3) * (stp σ t (cnt σ t)))) gX7_append_X7_at rfl (n := 2) (by decide +kernel) rfl ⟨(Nat.le_of_ble_eq_true rfl), (Nat.le_of_ble_eq_true rfl)⟩ hl.1 rfl (Nat.le_of_ble_eq_true rfl) dX7_append_44 ⟨(Nat.le_of_ble_eq_true rfl), (Nat.le_of_ble_eq_true rfl)⟩ (fun r wd1 H locs hp X => ?_)
    obtain ⟨rfl, rfl⟩ := hp
    refine lv_istore (lv' := [(8, .int (nI (162 * t + (18 + (18) * (cnt σ t) + (3) * (stp σ t (cnt σ t)))))), (7, .int (nI (stp σ t (cnt σ t)))), (6, .int (nI (cnt σ t))), (0, .ref (ad 0)), (1, .int (nI (t))), (2, .int (kind)), (3, .int (one)), (4, .int (two)), (5, .int (fs))]) hx hb dX7_append_47 hl (by decide) rfl (fun ls hl => ?_)
    refine lv_aload_n hx hb dX7_append_49 rfl (lv_at hl 3 rfl) ?_
    refine hx_getL S X (ci := 7) 0 (mW_0 _ _ _) rfl hin7 1 (by decide) (by decide +kernel) rfl dX7_append_50 ?_
    refine lv_iload hx hb dX7_append_53 (lv_at hl 0 rfl) ?_
    refine lv_iload_n hx hb dX7_append_55 rfl (lv_at hl 5 rfl) ?_
    refine mx_st S X 1 (N := 972) (mW_1 _ _ _) (j := 162 * t + (18 + (18) * (cnt σ t) + (3) * (stp σ t (cnt σ t)))) (by omega) (by decide) (x := kind) dX7_append_56 (mW_s1 _ _ _ _ _) (fun H locs X => ?_)
    refine lv_aload_n hx hb dX7_append_57 rfl (lv_at hl 3 rfl) ?_
    refine hx_getL S X (ci := 7) 0 (mW_0 _ _ _) rfl hin7 1 (by decide) (by decide +kernel) rfl dX7_append_58 ?_
    refine lv_iload hx hb dX7_append_61 (lv_at hl 0 rfl) ?_
    refine lv_iconst (v := 1) hx hb dX7_append_63 (by decide) ?_
    refine lv_iadd hx hb dX7_append_64 ?_
    refine hx_ei (show _ = nI (162 * t + (18 + (18) * (cnt σ t) + (3) * (stp σ t (cnt σ t))) + 1) from nI_add (162 * t + (18 + (18) * (cnt σ t) + (3) * (stp σ t (cnt σ t)))) (1)) ?_
    refine lv_iload_n hx hb dX7_append_65 rfl (lv_at hl 6 rfl) ?_
    refine mx_st S X 1 (N := 972) (mW_1 _ _ _) (j := 162 * t + (18 + (18) * (cnt σ t) + (3) * (stp σ t (cnt σ t))) + 1) (by omega) (by decide) (x := one) dX7_append_66 (mW_s1 _ _ _ _ _) (fun H locs X => ?_)
    refine lv_aload_n hx hb dX7_append_67 rfl (lv_at hl 3 rfl) ?_
    refine hx_getL S X (ci := 7) 0 (mW_0 _ _ _) rfl hin7 1 (by decide) (by decide +kernel) rfl dX7_append_68 ?_
    refine lv_iload hx hb dX7_append_71 (lv_at hl 0 rfl) ?_
    refine lv_iconst (v := 2) hx hb dX7_append_73 (by decide) ?_
    refine lv_iadd hx hb dX7_append_74 ?_
    refine hx_ei (show _ = nI (162 * t + (18 + (18) * (cnt σ t) + (3) * (stp σ t (cnt σ t))) + 2) from nI_add (162 * t + (18 + (18) * (cnt σ t) + (3) * (stp σ t (cnt σ t)))) (2)) ?_
    refine lv_iload hx hb dX7_append_75 (lv_at hl 7 rfl) ?_
    refine mx_st S X 1 (N := 972) (mW_1 _ _ _) (j := 162 * t + (18 + (18) * (cnt σ t) + (3) * (stp σ t (cnt σ t))) + 2) (by omega) (by decide) (x := two) dX7_append_77 (mW_s1 _ _ _ _ _) (fun H locs X => ?_)
    refine lv_aload_n hx hb dX7_append_78 rfl (lv_at hl 3 rfl) ?_
    refine hx_getL S X (ci := 7) 0 (mW_0 _ _ _) rfl hin7 1 (by decide) (by decide +kernel) rfl dX7_append_79 ?_
    refine lv_iload_n hx hb dX7_append_82 rfl (lv_at hl 4 rfl) ?_
    refine lv_bipush (v := 10) hx hb dX7_append_83 (by decide) ?_
    refine lv_iload hx hb dX7_append_85 (lv_at hl 2 rfl) ?_
    refine lv_iadd hx hb dX7_append_87 ?_
    refine hx_ei (show _ = nI (10 + cnt σ t) from nI_add (10) (cnt σ t)) ?_
    refine hx_Si (rest := [.ref (ad 1)]) S X (c_X7_at l G _ (t) (10 + cnt σ t)) gX7_append_X7_at rfl (n := 2) (by decide +kernel) rfl ⟨(Nat.le_of_ble_eq_true rfl), (Nat.le_of_ble_eq_true rfl)⟩ hl.1 rfl (Nat.le_of_ble_eq_true rfl) dX7_append_88 ⟨(Nat.le_of_ble_eq_true rfl), (Nat.le_of_ble_eq_true rfl)⟩ (fun r wd1 H locs hp X => ?_)
    obtain ⟨rfl, rfl⟩ := hp
    refine lv_dup2_11 hx hb dX7_append_91 rfl rfl ?_
    refine mx_ld S X 1 (N := 972) (mW_1 _ _ _) (j := 162 * t + (10 + cnt σ t)) (by omega) (by decide) (x := nI (stp σ t (cnt σ t))) (by rw [mS_ne _ _ _ (by omega), mS_ne _ _ _ (by omega), mS_ne _ _ _ (by omega)]; exact hn0) dX7_append_92 ?_
    refine lv_iconst (v := 1) hx hb dX7_append_93 (by decide) ?_
    refine lv_iadd hx hb dX7_append_94 ?_
    refine hx_ei (show _ = nI (stp σ t (cnt σ t) + 1) from nI_add (stp σ t (cnt σ t)) (1)) ?_
    refine mx_st S X 1 (N := 972) (mW_1 _ _ _) (j := 162 * t + (10 + cnt σ t)) (by omega) (by decide) (x := nI (stp σ t (cnt σ t) + 1)) dX7_append_95 (mW_s1 _ _ _ _ _) (fun H locs X => ?_)
    refine lv_aload_n hx hb dX7_append_96 rfl (lv_at hl 3 rfl) ?_
    refine hx_getL S X (ci := 7) 0 (mW_0 _ _ _) rfl hin7 1 (by decide) (by decide +kernel) rfl dX7_append_97 ?_
    refine lv_iload_n hx hb dX7_append_100 rfl (lv_at hl 4 rfl) ?_
    refine lv_iconst (v := 2) hx hb dX7_append_101 (by decide) ?_
    refine lv_iload hx hb dX7_append_102 (lv_at hl 2 rfl) ?_
    refine lv_iadd hx hb dX7_append_104 ?_
    refine hx_ei (show _ = nI (2 + cnt σ t) from nI_add (2) (cnt σ t)) ?_
    refine hx_Si (rest := [.ref (ad 1)]) S X (c_X7_at l G _ (t) (2 + cnt σ t)) gX7_append_X7_at rfl (n := 2) (by decide +kernel) rfl ⟨(Nat.le_of_ble_eq_true rfl), (Nat.le_of_ble_eq_true rfl)⟩ hl.1 rfl (Nat.le_of_ble_eq_true rfl) dX7_append_105 ⟨(Nat.le_of_ble_eq_true rfl), (Nat.le_of_ble_eq_true rfl)⟩ (fun r wd1 H locs hp X => ?_)
    obtain ⟨rfl, rfl⟩ := hp
    refine lv_iload hx hb dX7_append_108 (lv_at hl 8 rfl) ?_
    refine mx_st S X 1 (N := 972) (mW_1 _ _ _) (j := 162 * t + (2 + cnt σ t)) (by omega) (by decide) (x := fs) dX7_append_110 (mW_s1 _ _ _ _ _) (fun H locs X => ?_)
    refine lv_iload hx hb dX7_append_111 (lv_at hl 1 rfl) ?_
    refine lv_iconst (v := 1) hx hb dX7_append_113 (by decide) ?_
    refine lv_iadd hx hb dX7_append_114 ?_
    refine hx_ei (show _ = nI (stp σ t (cnt σ t) + 1) from nI_add (stp σ t (cnt σ t)) (1)) ?_
    exact hx_iret S X hr hlk (Nat.le_of_ble_eq_true rfl) (Nat.le_of_ble_eq_true rfl) (by simp [M_append, wif_t, wif_f, c24, stB]) dX7_append_115
  · skip
    have c24 := (nI_eq (a := stp σ t (cnt σ t)) (b := 6) (by omega) (by omega)).mp c24
    refine lv_ldc (v := -2000010) hx hb hown (hts (Cond.constant RX7 57 (-2000010)) (by decide +kernel)) dX7_append_27 ?_
    exact hx_iret S X hr hlk (Nat.le_of_ble_eq_true rfl) (Nat.le_of_ble_eq_true rfl) (by simp [M_append, wif_t, wif_f, c24, stB]) dX7_append_29

set_option maxRecDepth 100000 in
set_option maxHeartbeats 4000000 in
theorem c_X7_addField (l : Launch) (G : hG) (ad : Nat → Nat) (σ : Sg) (type field value : Int32) (hI : Inv σ) : hMi l G yX7_addField wsX7_addField ({ frames := 3, cells := 0, slots := 0, locals := 71 } : Room) (mW G ad σ) [.ref (ad 0), .int (type), .int (field), .int (value)] (fun r w => r = (M_addField σ type field value).1 ∧ w = mW G ad (M_addField σ type field value).2) := by
  refine hMi.of (cc := cX7_addField) (maxL := 6) (some .int) RX7 rfl (by decide +kernel) rfl (Nat.le_of_ble_eq_true rfl) ?_
  intro p e s m args below meth c S hr hlk X ls hl
  have hx := S.1
  have hb := S.2.1
  have hown := S.2.2.2.1
  have hts := S.2.2.2.2
  have hl : lv_has ls 6 [(0, .ref (ad 0)), (1, .int (type)), (2, .int (field)), (3, .int (value))] := hl
  have hin7 : ∀ w ∈ wsX70, w ∈ wsX7_addField := by decide +kernel
  have hC6 : nC σ ≤ 6 := hI.1.2
  have hO24 : nO σ ≤ 24 := hI.2.1.2
  refine lv_aload_n hx hb dX7_addField_0 rfl (lv_at hl 0 rfl) ?_
  refine lv_iload_n hx hb dX7_addField_1 rfl (lv_at hl 1 rfl) ?_
  refine hx_Vi (rest := []) S X (c_X7_wrongStage l G ad σ (type) hI) gX7_addField_X7_wrongStage rfl (n := 1) (by decide +kernel) rfl ⟨(Nat.le_of_ble_eq_true rfl), (Nat.le_of_ble_eq_true rfl)⟩ (hx_recvL (q0 := 0) (ci := 7) X rfl (mW_0 _ _ _)) hl.1 rfl (Nat.le_of_ble_eq_true rfl) dX7_addField_2 ⟨(Nat.le_of_ble_eq_true rfl), (Nat.le_of_ble_eq_true rfl)⟩ (fun r wd1 H locs hp X => ?_)
  obtain ⟨rfl, rfl⟩ := hp
  rcases ws_cases hI type with ⟨w1, w2⟩ | ⟨t, ht, rfl, w1, w2⟩ | ⟨t, ht, rfl, w1, w2⟩
  · skip
    refine hx_ei (show _ = (-2000001 : Int32) from w2) ?_
    refine lv_istore (lv' := [(4, .int ((-2000001 : Int32))), (0, .ref (ad 0)), (1, .int (type)), (2, .int (field)), (3, .int (value))]) hx hb dX7_addField_5 hl (by decide) rfl (fun ls hl => ?_)
    refine lv_iload hx hb dX7_addField_7 (lv_at hl 0 rfl) ?_
    refine lv_if_eq (tgt := 15) hx hb dX7_addField_9 (by decide) (fun c9 => absurd c9 (by decide)) (fun _ => ?_)
    refine lv_iload hx hb dX7_addField_12 (lv_at hl 0 rfl) ?_
    exact hx_iret S X hr hlk (Nat.le_of_ble_eq_true rfl) (Nat.le_of_ble_eq_true rfl) (by simp [M_addField, wif_t, wif_f, w1, w2]) dX7_addField_14
  · skip
    refine hx_ei (show _ = (-2000008 : Int32) from w2) ?_
    refine lv_istore (lv' := [(4, .int ((-2000008 : Int32))), (0, .ref (ad 0)), (1, .int (nI (t))), (2, .int (field)), (3, .int (value))]) hx hb dX7_addField_5 hl (by decide) rfl (fun ls hl => ?_)
    refine lv_iload hx hb dX7_addField_7 (lv_at hl 0 rfl) ?_
    refine lv_if_eq (tgt := 15) hx hb dX7_addField_9 (by decide) (fun c9 => absurd c9 (by decide)) (fun _ => ?_)
    refine lv_iload hx hb dX7_addField_12 (lv_at hl 0 rfl) ?_
    exact hx_iret S X hr hlk (Nat.le_of_ble_eq_true rfl) (Nat.le_of_ble_eq_true rfl) (by simp [M_addField, wif_t, wif_f, w1, w2]) dX7_addField_14
  · skip
    have hct : (nI t).toNatClampNeg = t := nI_clamp (by omega)
    obtain ⟨⟨hk0, hk1, hk2⟩, hks, hkv⟩ := hI.2.2.1 t ht
    have hk3 : cnt σ t ≤ 7 := hks.elim (fun q => absurd q w1) (fun q => q.2)
    refine hx_ei (show _ = (0 : Int32) from w2) ?_
    refine lv_istore (lv' := [(4, .int ((0 : Int32))), (0, .ref (ad 0)), (1, .int (nI (t))), (2, .int (field)), (3, .int (value))]) hx hb dX7_addField_5 hl (by decide) rfl (fun ls hl => ?_)
    refine lv_iload hx hb dX7_addField_7 (lv_at hl 0 rfl) ?_
    refine lv_if_eq (tgt := 15) hx hb dX7_addField_9 (by decide) (fun _ => ?_) (fun c9 => absurd (by decide) c9)
    refine lv_iload_n hx hb dX7_addField_15 rfl (lv_at hl 3 rfl) ?_
    refine lv_iconst (v := 0) hx hb dX7_addField_16 (by decide) ?_
    refine lv_bipush (v := 7) hx hb dX7_addField_17 (by decide) ?_
    refine hx_Si (rest := []) S X (c_X7_in l G _ (field) ((0 : Int32)) ((7 : Int32))) gX7_addField_X7_in rfl (n := 3) (by decide +kernel) rfl ⟨(Nat.le_of_ble_eq_true rfl), (Nat.le_of_ble_eq_true rfl)⟩ hl.1 rfl (Nat.le_of_ble_eq_true rfl) dX7_addField_19 ⟨(Nat.le_of_ble_eq_true rfl), (Nat.le_of_ble_eq_true rfl)⟩ (fun r wd1 H locs hp X => ?_)
    obtain ⟨hr19, rfl⟩ := hp
    by_cases h19 : 0 ≤ field ∧ field ≤ 7
    · skip
      refine hx_ei (hr19.1 h19) ?_
      have h19' : isF field := (in_1 (n := 7) (by decide) field).mp h19
      refine lv_if_eq (tgt := 36) hx hb dX7_addField_22 (by decide) (fun c9 => absurd c9 (by decide)) (fun _ => ?_)
      refine lv_iload_n hx hb dX7_addField_25 rfl (lv_at hl 4 rfl) ?_
      refine lv_ldc (v := -1000000) hx hb hown (hts (Cond.constant RX7 76 (-1000000)) (by decide +kernel)) dX7_addField_26 ?_
      refine lv_ldc (v := 1000000) hx hb hown (hts (Cond.constant RX7 77 (1000000)) (by decide +kernel)) dX7_addField_28 ?_
      refine hx_Si (rest := []) S X (c_X7_in l G _ (value) ((-1000000 : Int32)) ((1000000 : Int32))) gX7_addField_X7_in rfl (n := 3) (by decide +kernel) rfl ⟨(Nat.le_of_ble_eq_true rfl), (Nat.le_of_ble_eq_true rfl)⟩ hl.1 rfl (Nat.le_of_ble_eq_true rfl) dX7_addField_30 ⟨(Nat.le_of_ble_eq_true rfl), (Nat.le_of_ble_eq_true rfl)⟩ (fun r wd1 H locs hp X => ?_)
      obtain ⟨hr30, rfl⟩ := hp
      by_cases h30 : isVal value
      · skip
        refine hx_ei (hr30.1 h30) ?_
        refine lv_if_ne (tgt := 39) hx hb dX7_addField_33 (by decide) (fun _ => ?_) (fun c9 => absurd c9 (by decide))
        refine lv_aload_n hx hb dX7_addField_39 rfl (lv_at hl 1 rfl) ?_
        refine lv_iload_n hx hb dX7_addField_40 rfl (lv_at hl 2 rfl) ?_
        refine hx_Vi (rest := []) S X (c_X7_stagedNow l G ad σ (t) hI ht hk3) gX7_addField_X7_stagedNow rfl (n := 1) (by decide +kernel) rfl ⟨(Nat.le_of_ble_eq_true rfl), (Nat.le_of_ble_eq_true rfl)⟩ (hx_recvL (q0 := 0) (ci := 7) X rfl (mW_0 _ _ _)) hl.1 rfl (Nat.le_of_ble_eq_true rfl) dX7_addField_41 ⟨(Nat.le_of_ble_eq_true rfl), (Nat.le_of_ble_eq_true rfl)⟩ (fun r wd1 H locs hp X => ?_)
        obtain ⟨rfl, rfl⟩ := hp
        refine lv_istore (lv' := [(5, .int (sset σ (t))), (4, .int ((0 : Int32))), (0, .ref (ad 0)), (1, .int (nI (t))), (2, .int (field)), (3, .int (value))]) hx hb dX7_addField_44 hl (by decide) rfl (fun ls hl => ?_)
        refine lv_iload hx hb dX7_addField_46 (lv_at hl 0 rfl) ?_
        refine lv_iload_n hx hb dX7_addField_48 rfl (lv_at hl 4 rfl) ?_
        refine hx_Si (rest := []) S X (c_X7_has l G _ (sset σ (t)) (field)) gX7_addField_X7_has rfl (n := 2) (by decide +kernel) rfl ⟨(Nat.le_of_ble_eq_true rfl), (Nat.le_of_ble_eq_true rfl)⟩ hl.1 rfl (Nat.le_of_ble_eq_true rfl) dX7_addField_49 ⟨(Nat.le_of_ble_eq_true rfl), (Nat.le_of_ble_eq_true rfl)⟩ (fun r wd1 H locs hp X => ?_)
        obtain ⟨hr49, rfl⟩ := hp
        by_cases h49 : hasF (sset σ (t)) (field)
        · skip
          refine hx_ei (hr49.1 h49) ?_
          refine lv_if_eq (tgt := 60) hx hb dX7_addField_52 (by decide) (fun c9 => absurd c9 (by decide)) (fun _ => ?_)
          refine lv_ldc (v := -2000009) hx hb hown (hts (Cond.constant RX7 68 (-2000009)) (by decide +kernel)) dX7_addField_55 ?_
          refine lv_goto (tgt := 74) hx hb dX7_addField_57 (by decide) ?_
          exact hx_iret S X hr hlk (Nat.le_of_ble_eq_true rfl) (Nat.le_of_ble_eq_true rfl) (by simp [M_addField, wif_t, wif_f, w1, w2, hct, h19, h19', h30, h49]) dX7_addField_74
        · skip
          refine hx_ei (hr49.2 h49) ?_
          refine lv_if_eq (tgt := 60) hx hb dX7_addField_52 (by decide) (fun _ => ?_) (fun c9 => absurd (by decide) c9)
          refine lv_aload_n hx hb dX7_addField_60 rfl (lv_at hl 2 rfl) ?_
          refine lv_iload_n hx hb dX7_addField_61 rfl (lv_at hl 3 rfl) ?_
          refine lv_iconst (v := 0) hx hb dX7_addField_62 (by decide) ?_
          refine lv_iload_n hx hb dX7_addField_63 rfl (lv_at hl 4 rfl) ?_
          refine lv_iload_n hx hb dX7_addField_64 rfl (lv_at hl 5 rfl) ?_
          refine lv_iload hx hb dX7_addField_65 (lv_at hl 0 rfl) ?_
          refine lv_iconst (v := 1) hx hb dX7_addField_67 (by decide) ?_
          refine lv_iload_n hx hb dX7_addField_68 rfl (lv_at hl 4 rfl) ?_
          refine lv_ishl hx hb dX7_addField_69 ?_
          refine lv_ior hx hb dX7_addField_70 ?_
          refine hx_Vi (rest := []) S X (c_X7_append l G ad σ (t) ((0 : Int32)) (field) (value) ((sset σ (t)) ||| (((1 : Int32)) <<< ((field) &&& 31))) hI ht hk3) gX7_addField_X7_append rfl (n := 5) (by decide +kernel) rfl ⟨(Nat.le_of_ble_eq_true rfl), (Nat.le_of_ble_eq_true rfl)⟩ (hx_recvL (q0 := 0) (ci := 7) X rfl (mW_0 _ _ _)) hl.1 rfl (Nat.le_of_ble_eq_true rfl) dX7_addField_71 ⟨(Nat.le_of_ble_eq_true rfl), (Nat.le_of_ble_eq_true rfl)⟩ (fun r wd1 H locs hp X => ?_)
          obtain ⟨rfl, rfl⟩ := hp
          exact hx_iret S X hr hlk (Nat.le_of_ble_eq_true rfl) (Nat.le_of_ble_eq_true rfl) (by simp [M_addField, wif_t, wif_f, w1, w2, hct, h19, h19', h30, h49]) dX7_addField_74
      · skip
        refine hx_ei (hr30.2 h30) ?_
        refine lv_if_ne (tgt := 39) hx hb dX7_addField_33 (by decide) (fun c9 => absurd (by decide) c9) (fun _ => ?_)
        refine lv_ldc (v := -2000007) hx hb hown (hts (Cond.constant RX7 56 (-2000007)) (by decide +kernel)) dX7_addField_36 ?_
        exact hx_iret S X hr hlk (Nat.le_of_ble_eq_true rfl) (Nat.le_of_ble_eq_true rfl) (by simp [M_addField, wif_t, wif_f, w1, w2, hct, h19, h19', h30]) dX7_addField_38
    · skip
      refine hx_ei (hr19.2 h19) ?_
      have h19' : ¬ isF field := fun q => h19 ((in_1 (n := 7) (by decide) field).mpr q)
      refine lv_if_eq (tgt := 36) hx hb dX7_addField_22 (by decide) (fun _ => ?_) (fun c9 => absurd (by decide) c9)
      refine lv_ldc (v := -2000007) hx hb hown (hts (Cond.constant RX7 56 (-2000007)) (by decide +kernel)) dX7_addField_36 ?_
      exact hx_iret S X hr hlk (Nat.le_of_ble_eq_true rfl) (Nat.le_of_ble_eq_true rfl) (by simp [M_addField, wif_t, wif_f, w1, w2, hct, h19, h19']) dX7_addField_38

set_option maxRecDepth 100000 in
set_option maxHeartbeats 4000000 in
theorem c_X7_dropField (l : Launch) (G : hG) (ad : Nat → Nat) (σ : Sg) (type field : Int32) (hI : Inv σ) : hMi l G yX7_dropField wsX7_dropField ({ frames := 3, cells := 0, slots := 0, locals := 71 } : Room) (mW G ad σ) [.ref (ad 0), .int (type), .int (field)] (fun r w => r = (M_dropField σ type field).1 ∧ w = mW G ad (M_dropField σ type field).2) := by
  refine hMi.of (cc := cX7_dropField) (maxL := 5) (some .int) RX7 rfl (by decide +kernel) rfl (Nat.le_of_ble_eq_true rfl) ?_
  intro p e s m args below meth c S hr hlk X ls hl
  have hx := S.1
  have hb := S.2.1
  have hown := S.2.2.2.1
  have hts := S.2.2.2.2
  have hl : lv_has ls 5 [(0, .ref (ad 0)), (1, .int (type)), (2, .int (field))] := hl
  have hin7 : ∀ w ∈ wsX70, w ∈ wsX7_dropField := by decide +kernel
  have hC6 : nC σ ≤ 6 := hI.1.2
  have hO24 : nO σ ≤ 24 := hI.2.1.2
  refine lv_aload_n hx hb dX7_dropField_0 rfl (lv_at hl 0 rfl) ?_
  refine lv_iload_n hx hb dX7_dropField_1 rfl (lv_at hl 1 rfl) ?_
  refine hx_Vi (rest := []) S X (c_X7_wrongStage l G ad σ (type) hI) gX7_dropField_X7_wrongStage rfl (n := 1) (by decide +kernel) rfl ⟨(Nat.le_of_ble_eq_true rfl), (Nat.le_of_ble_eq_true rfl)⟩ (hx_recvL (q0 := 0) (ci := 7) X rfl (mW_0 _ _ _)) hl.1 rfl (Nat.le_of_ble_eq_true rfl) dX7_dropField_2 ⟨(Nat.le_of_ble_eq_true rfl), (Nat.le_of_ble_eq_true rfl)⟩ (fun r wd1 H locs hp X => ?_)
  obtain ⟨rfl, rfl⟩ := hp
  rcases ws_cases hI type with ⟨w1, w2⟩ | ⟨t, ht, rfl, w1, w2⟩ | ⟨t, ht, rfl, w1, w2⟩
  · skip
    refine hx_ei (show _ = (-2000001 : Int32) from w2) ?_
    refine lv_istore_n (lv' := [(3, .int ((-2000001 : Int32))), (0, .ref (ad 0)), (1, .int (type)), (2, .int (field))]) hx hb dX7_dropField_5 rfl hl (by decide) rfl (fun ls hl => ?_)
    refine lv_iload_n hx hb dX7_dropField_6 rfl (lv_at hl 0 rfl) ?_
    refine lv_if_eq (tgt := 12) hx hb dX7_dropField_7 (by decide) (fun c9 => absurd c9 (by decide)) (fun _ => ?_)
    refine lv_iload_n hx hb dX7_dropField_10 rfl (lv_at hl 0 rfl) ?_
    exact hx_iret S X hr hlk (Nat.le_of_ble_eq_true rfl) (Nat.le_of_ble_eq_true rfl) (by simp [M_dropField, wif_t, wif_f, w1, w2]) dX7_dropField_11
  · skip
    refine hx_ei (show _ = (-2000008 : Int32) from w2) ?_
    refine lv_istore_n (lv' := [(3, .int ((-2000008 : Int32))), (0, .ref (ad 0)), (1, .int (nI (t))), (2, .int (field))]) hx hb dX7_dropField_5 rfl hl (by decide) rfl (fun ls hl => ?_)
    refine lv_iload_n hx hb dX7_dropField_6 rfl (lv_at hl 0 rfl) ?_
    refine lv_if_eq (tgt := 12) hx hb dX7_dropField_7 (by decide) (fun c9 => absurd c9 (by decide)) (fun _ => ?_)
    refine lv_iload_n hx hb dX7_dropField_10 rfl (lv_at hl 0 rfl) ?_
    exact hx_iret S X hr hlk (Nat.le_of_ble_eq_true rfl) (Nat.le_of_ble_eq_true rfl) (by simp [M_dropField, wif_t, wif_f, w1, w2]) dX7_dropField_11
  · skip
    have hct : (nI t).toNatClampNeg = t := nI_clamp (by omega)
    obtain ⟨⟨hk0, hk1, hk2⟩, hks, hkv⟩ := hI.2.2.1 t ht
    have hk3 : cnt σ t ≤ 7 := hks.elim (fun q => absurd q w1) (fun q => q.2)
    refine hx_ei (show _ = (0 : Int32) from w2) ?_
    refine lv_istore_n (lv' := [(3, .int ((0 : Int32))), (0, .ref (ad 0)), (1, .int (nI (t))), (2, .int (field))]) hx hb dX7_dropField_5 rfl hl (by decide) rfl (fun ls hl => ?_)
    refine lv_iload_n hx hb dX7_dropField_6 rfl (lv_at hl 0 rfl) ?_
    refine lv_if_eq (tgt := 12) hx hb dX7_dropField_7 (by decide) (fun _ => ?_) (fun c9 => absurd (by decide) c9)
    refine lv_aload_n hx hb dX7_dropField_12 rfl (lv_at hl 1 rfl) ?_
    refine lv_iload_n hx hb dX7_dropField_13 rfl (lv_at hl 2 rfl) ?_
    refine hx_Vi (rest := []) S X (c_X7_stagedNow l G ad σ (t) hI ht hk3) gX7_dropField_X7_stagedNow rfl (n := 1) (by decide +kernel) rfl ⟨(Nat.le_of_ble_eq_true rfl), (Nat.le_of_ble_eq_true rfl)⟩ (hx_recvL (q0 := 0) (ci := 7) X rfl (mW_0 _ _ _)) hl.1 rfl (Nat.le_of_ble_eq_true rfl) dX7_dropField_14 ⟨(Nat.le_of_ble_eq_true rfl), (Nat.le_of_ble_eq_true rfl)⟩ (fun r wd1 H locs hp X => ?_)
    obtain ⟨rfl, rfl⟩ := hp
    refine lv_istore (lv' := [(4, .int (sset σ (t))), (3, .int ((0 : Int32))), (0, .ref (ad 0)), (1, .int (nI (t))), (2, .int (field))]) hx hb dX7_dropField_17 hl (by decide) rfl (fun ls hl => ?_)
    refine lv_iload hx hb dX7_dropField_19 (lv_at hl 0 rfl) ?_
    refine lv_iload_n hx hb dX7_dropField_21 rfl (lv_at hl 4 rfl) ?_
    refine hx_Si (rest := []) S X (c_X7_has l G _ (sset σ (t)) (field)) gX7_dropField_X7_has rfl (n := 2) (by decide +kernel) rfl ⟨(Nat.le_of_ble_eq_true rfl), (Nat.le_of_ble_eq_true rfl)⟩ hl.1 rfl (Nat.le_of_ble_eq_true rfl) dX7_dropField_22 ⟨(Nat.le_of_ble_eq_true rfl), (Nat.le_of_ble_eq_true rfl)⟩ (fun r wd1 H locs hp X => ?_)
    obtain ⟨hr22, rfl⟩ := hp
    by_cases h22 : hasF (sset σ (t)) (field)
    · skip
      refine hx_ei (hr22.1 h22) ?_
      refine lv_if_eq (tgt := 47) hx hb dX7_dropField_25 (by decide) (fun c9 => absurd c9 (by decide)) (fun _ => ?_)
      refine lv_aload_n hx hb dX7_dropField_28 rfl (lv_at hl 2 rfl) ?_
      refine lv_iload_n hx hb dX7_dropField_29 rfl (lv_at hl 3 rfl) ?_
      refine lv_iconst (v := 1) hx hb dX7_dropField_30 (by decide) ?_
      refine lv_iload_n hx hb dX7_dropField_31 rfl (lv_at hl 4 rfl) ?_
      refine lv_iconst (v := 0) hx hb dX7_dropField_32 (by decide) ?_
      refine lv_iload hx hb dX7_dropField_33 (lv_at hl 0 rfl) ?_
      refine lv_iconst (v := 1) hx hb dX7_dropField_35 (by decide) ?_
      refine lv_iload_n hx hb dX7_dropField_36 rfl (lv_at hl 4 rfl) ?_
      refine lv_ishl hx hb dX7_dropField_37 ?_
      refine lv_iconst (v := -1) hx hb dX7_dropField_38 (by decide) ?_
      refine lv_ixor hx hb dX7_dropField_39 ?_
      refine lv_iand hx hb dX7_dropField_40 ?_
      refine hx_Vi (rest := []) S X (c_X7_append l G ad σ (t) ((1 : Int32)) (field) ((0 : Int32)) ((sset σ (t)) &&& ((((1 : Int32)) <<< ((field) &&& 31)) ^^^ ((-1 : Int32)))) hI ht hk3) gX7_dropField_X7_append rfl (n := 5) (by decide +kernel) rfl ⟨(Nat.le_of_ble_eq_true rfl), (Nat.le_of_ble_eq_true rfl)⟩ (hx_recvL (q0 := 0) (ci := 7) X rfl (mW_0 _ _ _)) hl.1 rfl (Nat.le_of_ble_eq_true rfl) dX7_dropField_41 ⟨(Nat.le_of_ble_eq_true rfl), (Nat.le_of_ble_eq_true rfl)⟩ (fun r wd1 H locs hp X => ?_)
      obtain ⟨rfl, rfl⟩ := hp
      refine lv_goto (tgt := 49) hx hb dX7_dropField_44 (by decide) ?_
      exact hx_iret S X hr hlk (Nat.le_of_ble_eq_true rfl) (Nat.le_of_ble_eq_true rfl) (by simp [M_dropField, wif_t, wif_f, w1, w2, hct, h22]) dX7_dropField_49
    · skip
      refine hx_ei (hr22.2 h22) ?_
      refine lv_if_eq (tgt := 47) hx hb dX7_dropField_25 (by decide) (fun _ => ?_) (fun c9 => absurd (by decide) c9)
      refine lv_ldc (v := -2000005) hx hb hown (hts (Cond.constant RX7 86 (-2000005)) (by decide +kernel)) dX7_dropField_47 ?_
      exact hx_iret S X hr hlk (Nat.le_of_ble_eq_true rfl) (Nat.le_of_ble_eq_true rfl) (by simp [M_dropField, wif_t, wif_f, w1, w2, hct, h22]) dX7_dropField_49

set_option maxRecDepth 100000 in
set_option maxHeartbeats 4000000 in
theorem c_X7_renameField (l : Launch) (G : hG) (ad : Nat → Nat) (σ : Sg) (type fr to : Int32) (hI : Inv σ) : hMi l G yX7_renameField wsX7_renameField ({ frames := 3, cells := 0, slots := 0, locals := 71 } : Room) (mW G ad σ) [.ref (ad 0), .int (type), .int (fr), .int (to)] (fun r w => r = (M_renameField σ type fr to).1 ∧ w = mW G ad (M_renameField σ type fr to).2) := by
  refine hMi.of (cc := cX7_renameField) (maxL := 6) (some .int) RX7 rfl (by decide +kernel) rfl (Nat.le_of_ble_eq_true rfl) ?_
  intro p e s m args below meth c S hr hlk X ls hl
  have hx := S.1
  have hb := S.2.1
  have hown := S.2.2.2.1
  have hts := S.2.2.2.2
  have hl : lv_has ls 6 [(0, .ref (ad 0)), (1, .int (type)), (2, .int (fr)), (3, .int (to))] := hl
  have hin7 : ∀ w ∈ wsX70, w ∈ wsX7_renameField := by decide +kernel
  have hC6 : nC σ ≤ 6 := hI.1.2
  have hO24 : nO σ ≤ 24 := hI.2.1.2
  refine lv_aload_n hx hb dX7_renameField_0 rfl (lv_at hl 0 rfl) ?_
  refine lv_iload_n hx hb dX7_renameField_1 rfl (lv_at hl 1 rfl) ?_
  refine hx_Vi (rest := []) S X (c_X7_wrongStage l G ad σ (type) hI) gX7_renameField_X7_wrongStage rfl (n := 1) (by decide +kernel) rfl ⟨(Nat.le_of_ble_eq_true rfl), (Nat.le_of_ble_eq_true rfl)⟩ (hx_recvL (q0 := 0) (ci := 7) X rfl (mW_0 _ _ _)) hl.1 rfl (Nat.le_of_ble_eq_true rfl) dX7_renameField_2 ⟨(Nat.le_of_ble_eq_true rfl), (Nat.le_of_ble_eq_true rfl)⟩ (fun r wd1 H locs hp X => ?_)
  obtain ⟨rfl, rfl⟩ := hp
  rcases ws_cases hI type with ⟨w1, w2⟩ | ⟨t, ht, rfl, w1, w2⟩ | ⟨t, ht, rfl, w1, w2⟩
  · skip
    refine hx_ei (show _ = (-2000001 : Int32) from w2) ?_
    refine lv_istore (lv' := [(4, .int ((-2000001 : Int32))), (0, .ref (ad 0)), (1, .int (type)), (2, .int (fr)), (3, .int (to))]) hx hb dX7_renameField_5 hl (by decide) rfl (fun ls hl => ?_)
    refine lv_iload hx hb dX7_renameField_7 (lv_at hl 0 rfl) ?_
    refine lv_if_eq (tgt := 15) hx hb dX7_renameField_9 (by decide) (fun c9 => absurd c9 (by decide)) (fun _ => ?_)
    refine lv_iload hx hb dX7_renameField_12 (lv_at hl 0 rfl) ?_
    exact hx_iret S X hr hlk (Nat.le_of_ble_eq_true rfl) (Nat.le_of_ble_eq_true rfl) (by simp [M_renameField, wif_t, wif_f, w1, w2]) dX7_renameField_14
  · skip
    refine hx_ei (show _ = (-2000008 : Int32) from w2) ?_
    refine lv_istore (lv' := [(4, .int ((-2000008 : Int32))), (0, .ref (ad 0)), (1, .int (nI (t))), (2, .int (fr)), (3, .int (to))]) hx hb dX7_renameField_5 hl (by decide) rfl (fun ls hl => ?_)
    refine lv_iload hx hb dX7_renameField_7 (lv_at hl 0 rfl) ?_
    refine lv_if_eq (tgt := 15) hx hb dX7_renameField_9 (by decide) (fun c9 => absurd c9 (by decide)) (fun _ => ?_)
    refine lv_iload hx hb dX7_renameField_12 (lv_at hl 0 rfl) ?_
    exact hx_iret S X hr hlk (Nat.le_of_ble_eq_true rfl) (Nat.le_of_ble_eq_true rfl) (by simp [M_renameField, wif_t, wif_f, w1, w2]) dX7_renameField_14
  · skip
    have hct : (nI t).toNatClampNeg = t := nI_clamp (by omega)
    obtain ⟨⟨hk0, hk1, hk2⟩, hks, hkv⟩ := hI.2.2.1 t ht
    have hk3 : cnt σ t ≤ 7 := hks.elim (fun q => absurd q w1) (fun q => q.2)
    refine hx_ei (show _ = (0 : Int32) from w2) ?_
    refine lv_istore (lv' := [(4, .int ((0 : Int32))), (0, .ref (ad 0)), (1, .int (nI (t))), (2, .int (fr)), (3, .int (to))]) hx hb dX7_renameField_5 hl (by decide) rfl (fun ls hl => ?_)
    refine lv_iload hx hb dX7_renameField_7 (lv_at hl 0 rfl) ?_
    refine lv_if_eq (tgt := 15) hx hb dX7_renameField_9 (by decide) (fun _ => ?_) (fun c9 => absurd (by decide) c9)
    refine lv_aload_n hx hb dX7_renameField_15 rfl (lv_at hl 1 rfl) ?_
    refine lv_iload_n hx hb dX7_renameField_16 rfl (lv_at hl 2 rfl) ?_
    refine hx_Vi (rest := []) S X (c_X7_stagedNow l G ad σ (t) hI ht hk3) gX7_renameField_X7_stagedNow rfl (n := 1) (by decide +kernel) rfl ⟨(Nat.le_of_ble_eq_true rfl), (Nat.le_of_ble_eq_true rfl)⟩ (hx_recvL (q0 := 0) (ci := 7) X rfl (mW_0 _ _ _)) hl.1 rfl (Nat.le_of_ble_eq_true rfl) dX7_renameField_17 ⟨(Nat.le_of_ble_eq_true rfl), (Nat.le_of_ble_eq_true rfl)⟩ (fun r wd1 H locs hp X => ?_)
    obtain ⟨rfl, rfl⟩ := hp
    refine lv_istore (lv' := [(5, .int (sset σ (t))), (4, .int ((0 : Int32))), (0, .ref (ad 0)), (1, .int (nI (t))), (2, .int (fr)), (3, .int (to))]) hx hb dX7_renameField_20 hl (by decide) rfl (fun ls hl => ?_)
    refine lv_iload hx hb dX7_renameField_22 (lv_at hl 0 rfl) ?_
    refine lv_iload_n hx hb dX7_renameField_24 rfl (lv_at hl 4 rfl) ?_
    refine hx_Si (rest := []) S X (c_X7_has l G _ (sset σ (t)) (fr)) gX7_renameField_X7_has rfl (n := 2) (by decide +kernel) rfl ⟨(Nat.le_of_ble_eq_true rfl), (Nat.le_of_ble_eq_true rfl)⟩ hl.1 rfl (Nat.le_of_ble_eq_true rfl) dX7_renameField_25 ⟨(Nat.le_of_ble_eq_true rfl), (Nat.le_of_ble_eq_true rfl)⟩ (fun r wd1 H locs hp X => ?_)
    obtain ⟨hr25, rfl⟩ := hp
    by_cases h25 : hasF (sset σ (t)) (fr)
    · skip
      refine hx_ei (hr25.1 h25) ?_
      refine lv_if_ne (tgt := 34) hx hb dX7_renameField_28 (by decide) (fun _ => ?_) (fun c9 => absurd c9 (by decide))
      refine lv_iload_n hx hb dX7_renameField_34 rfl (lv_at hl 5 rfl) ?_
      refine lv_iconst (v := 0) hx hb dX7_renameField_35 (by decide) ?_
      refine lv_bipush (v := 7) hx hb dX7_renameField_36 (by decide) ?_
      refine hx_Si (rest := []) S X (c_X7_in l G _ (to) ((0 : Int32)) ((7 : Int32))) gX7_renameField_X7_in rfl (n := 3) (by decide +kernel) rfl ⟨(Nat.le_of_ble_eq_true rfl), (Nat.le_of_ble_eq_true rfl)⟩ hl.1 rfl (Nat.le_of_ble_eq_true rfl) dX7_renameField_38 ⟨(Nat.le_of_ble_eq_true rfl), (Nat.le_of_ble_eq_true rfl)⟩ (fun r wd1 H locs hp X => ?_)
      obtain ⟨hr38, rfl⟩ := hp
      by_cases h38 : 0 ≤ to ∧ to ≤ 7
      · skip
        refine hx_ei (hr38.1 h38) ?_
        have h38' : isF to := (in_1 (n := 7) (by decide) to).mp h38
        refine lv_if_ne (tgt := 47) hx hb dX7_renameField_41 (by decide) (fun _ => ?_) (fun c9 => absurd c9 (by decide))
        refine lv_iload hx hb dX7_renameField_47 (lv_at hl 0 rfl) ?_
        refine lv_iload_n hx hb dX7_renameField_49 rfl (lv_at hl 5 rfl) ?_
        refine hx_Si (rest := []) S X (c_X7_has l G _ (sset σ (t)) (to)) gX7_renameField_X7_has rfl (n := 2) (by decide +kernel) rfl ⟨(Nat.le_of_ble_eq_true rfl), (Nat.le_of_ble_eq_true rfl)⟩ hl.1 rfl (Nat.le_of_ble_eq_true rfl) dX7_renameField_50 ⟨(Nat.le_of_ble_eq_true rfl), (Nat.le_of_ble_eq_true rfl)⟩ (fun r wd1 H locs hp X => ?_)
        obtain ⟨hr50, rfl⟩ := hp
        by_cases h50 : hasF (sset σ (t)) (to)
        · skip
          refine hx_ei (hr50.1 h50) ?_
          refine lv_if_eq (tgt := 61) hx hb dX7_renameField_53 (by decide) (fun c9 => absurd c9 (by decide)) (fun _ => ?_)
          refine lv_ldc (v := -2000009) hx hb hown (hts (Cond.constant RX7 68 (-2000009)) (by decide +kernel)) dX7_renameField_56 ?_
          refine lv_goto (tgt := 81) hx hb dX7_renameField_58 (by decide) ?_
          exact hx_iret S X hr hlk (Nat.le_of_ble_eq_true rfl) (Nat.le_of_ble_eq_true rfl) (by simp [M_renameField, wif_t, wif_f, w1, w2, hct, h25, h38, h38', h50]) dX7_renameField_81
        · skip
          refine hx_ei (hr50.2 h50) ?_
          refine lv_if_eq (tgt := 61) hx hb dX7_renameField_53 (by decide) (fun _ => ?_) (fun c9 => absurd (by decide) c9)
          refine lv_aload_n hx hb dX7_renameField_61 rfl (lv_at hl 2 rfl) ?_
          refine lv_iload_n hx hb dX7_renameField_62 rfl (lv_at hl 3 rfl) ?_
          refine lv_iconst (v := 2) hx hb dX7_renameField_63 (by decide) ?_
          refine lv_iload_n hx hb dX7_renameField_64 rfl (lv_at hl 4 rfl) ?_
          refine lv_iload_n hx hb dX7_renameField_65 rfl (lv_at hl 5 rfl) ?_
          refine lv_iload hx hb dX7_renameField_66 (lv_at hl 0 rfl) ?_
          refine lv_iconst (v := 1) hx hb dX7_renameField_68 (by decide) ?_
          refine lv_iload_n hx hb dX7_renameField_69 rfl (lv_at hl 4 rfl) ?_
          refine lv_ishl hx hb dX7_renameField_70 ?_
          refine lv_iconst (v := -1) hx hb dX7_renameField_71 (by decide) ?_
          refine lv_ixor hx hb dX7_renameField_72 ?_
          refine lv_iand hx hb dX7_renameField_73 ?_
          refine lv_iconst (v := 1) hx hb dX7_renameField_74 (by decide) ?_
          refine lv_iload_n hx hb dX7_renameField_75 rfl (lv_at hl 5 rfl) ?_
          refine lv_ishl hx hb dX7_renameField_76 ?_
          refine lv_ior hx hb dX7_renameField_77 ?_
          refine hx_Vi (rest := []) S X (c_X7_append l G ad σ (t) ((2 : Int32)) (fr) (to) (((sset σ (t)) &&& ((((1 : Int32)) <<< ((fr) &&& 31)) ^^^ ((-1 : Int32)))) ||| (((1 : Int32)) <<< ((to) &&& 31))) hI ht hk3) gX7_renameField_X7_append rfl (n := 5) (by decide +kernel) rfl ⟨(Nat.le_of_ble_eq_true rfl), (Nat.le_of_ble_eq_true rfl)⟩ (hx_recvL (q0 := 0) (ci := 7) X rfl (mW_0 _ _ _)) hl.1 rfl (Nat.le_of_ble_eq_true rfl) dX7_renameField_78 ⟨(Nat.le_of_ble_eq_true rfl), (Nat.le_of_ble_eq_true rfl)⟩ (fun r wd1 H locs hp X => ?_)
          obtain ⟨rfl, rfl⟩ := hp
          exact hx_iret S X hr hlk (Nat.le_of_ble_eq_true rfl) (Nat.le_of_ble_eq_true rfl) (by simp [M_renameField, wif_t, wif_f, w1, w2, hct, h25, h38, h38', h50]) dX7_renameField_81
      · skip
        refine hx_ei (hr38.2 h38) ?_
        have h38' : ¬ isF to := fun q => h38 ((in_1 (n := 7) (by decide) to).mpr q)
        refine lv_if_ne (tgt := 47) hx hb dX7_renameField_41 (by decide) (fun c9 => absurd (by decide) c9) (fun _ => ?_)
        refine lv_ldc (v := -2000007) hx hb hown (hts (Cond.constant RX7 56 (-2000007)) (by decide +kernel)) dX7_renameField_44 ?_
        exact hx_iret S X hr hlk (Nat.le_of_ble_eq_true rfl) (Nat.le_of_ble_eq_true rfl) (by simp [M_renameField, wif_t, wif_f, w1, w2, hct, h25, h38, h38']) dX7_renameField_46
    · skip
      refine hx_ei (hr25.2 h25) ?_
      refine lv_if_ne (tgt := 34) hx hb dX7_renameField_28 (by decide) (fun c9 => absurd (by decide) c9) (fun _ => ?_)
      refine lv_ldc (v := -2000005) hx hb hown (hts (Cond.constant RX7 86 (-2000005)) (by decide +kernel)) dX7_renameField_31 ?_
      exact hx_iret S X hr hlk (Nat.le_of_ble_eq_true rfl) (Nat.le_of_ble_eq_true rfl) (by simp [M_renameField, wif_t, wif_f, w1, w2, hct, h25]) dX7_renameField_33

set_option maxRecDepth 100000 in
set_option maxHeartbeats 4000000 in
theorem c_X7_scaleField (l : Launch) (G : hG) (ad : Nat → Nat) (σ : Sg) (type field factor : Int32) (hI : Inv σ) : hMi l G yX7_scaleField wsX7_scaleField ({ frames := 3, cells := 0, slots := 0, locals := 71 } : Room) (mW G ad σ) [.ref (ad 0), .int (type), .int (field), .int (factor)] (fun r w => r = (M_scaleField σ type field factor).1 ∧ w = mW G ad (M_scaleField σ type field factor).2) := by
  refine hMi.of (cc := cX7_scaleField) (maxL := 6) (some .int) RX7 rfl (by decide +kernel) rfl (Nat.le_of_ble_eq_true rfl) ?_
  intro p e s m args below meth c S hr hlk X ls hl
  have hx := S.1
  have hb := S.2.1
  have hown := S.2.2.2.1
  have hts := S.2.2.2.2
  have hl : lv_has ls 6 [(0, .ref (ad 0)), (1, .int (type)), (2, .int (field)), (3, .int (factor))] := hl
  have hin7 : ∀ w ∈ wsX70, w ∈ wsX7_scaleField := by decide +kernel
  have hC6 : nC σ ≤ 6 := hI.1.2
  have hO24 : nO σ ≤ 24 := hI.2.1.2
  refine lv_aload_n hx hb dX7_scaleField_0 rfl (lv_at hl 0 rfl) ?_
  refine lv_iload_n hx hb dX7_scaleField_1 rfl (lv_at hl 1 rfl) ?_
  refine hx_Vi (rest := []) S X (c_X7_wrongStage l G ad σ (type) hI) gX7_scaleField_X7_wrongStage rfl (n := 1) (by decide +kernel) rfl ⟨(Nat.le_of_ble_eq_true rfl), (Nat.le_of_ble_eq_true rfl)⟩ (hx_recvL (q0 := 0) (ci := 7) X rfl (mW_0 _ _ _)) hl.1 rfl (Nat.le_of_ble_eq_true rfl) dX7_scaleField_2 ⟨(Nat.le_of_ble_eq_true rfl), (Nat.le_of_ble_eq_true rfl)⟩ (fun r wd1 H locs hp X => ?_)
  obtain ⟨rfl, rfl⟩ := hp
  rcases ws_cases hI type with ⟨w1, w2⟩ | ⟨t, ht, rfl, w1, w2⟩ | ⟨t, ht, rfl, w1, w2⟩
  · skip
    refine hx_ei (show _ = (-2000001 : Int32) from w2) ?_
    refine lv_istore (lv' := [(4, .int ((-2000001 : Int32))), (0, .ref (ad 0)), (1, .int (type)), (2, .int (field)), (3, .int (factor))]) hx hb dX7_scaleField_5 hl (by decide) rfl (fun ls hl => ?_)
    refine lv_iload hx hb dX7_scaleField_7 (lv_at hl 0 rfl) ?_
    refine lv_if_eq (tgt := 15) hx hb dX7_scaleField_9 (by decide) (fun c9 => absurd c9 (by decide)) (fun _ => ?_)
    refine lv_iload hx hb dX7_scaleField_12 (lv_at hl 0 rfl) ?_
    exact hx_iret S X hr hlk (Nat.le_of_ble_eq_true rfl) (Nat.le_of_ble_eq_true rfl) (by simp [M_scaleField, wif_t, wif_f, w1, w2]) dX7_scaleField_14
  · skip
    refine hx_ei (show _ = (-2000008 : Int32) from w2) ?_
    refine lv_istore (lv' := [(4, .int ((-2000008 : Int32))), (0, .ref (ad 0)), (1, .int (nI (t))), (2, .int (field)), (3, .int (factor))]) hx hb dX7_scaleField_5 hl (by decide) rfl (fun ls hl => ?_)
    refine lv_iload hx hb dX7_scaleField_7 (lv_at hl 0 rfl) ?_
    refine lv_if_eq (tgt := 15) hx hb dX7_scaleField_9 (by decide) (fun c9 => absurd c9 (by decide)) (fun _ => ?_)
    refine lv_iload hx hb dX7_scaleField_12 (lv_at hl 0 rfl) ?_
    exact hx_iret S X hr hlk (Nat.le_of_ble_eq_true rfl) (Nat.le_of_ble_eq_true rfl) (by simp [M_scaleField, wif_t, wif_f, w1, w2]) dX7_scaleField_14
  · skip
    have hct : (nI t).toNatClampNeg = t := nI_clamp (by omega)
    obtain ⟨⟨hk0, hk1, hk2⟩, hks, hkv⟩ := hI.2.2.1 t ht
    have hk3 : cnt σ t ≤ 7 := hks.elim (fun q => absurd q w1) (fun q => q.2)
    refine hx_ei (show _ = (0 : Int32) from w2) ?_
    refine lv_istore (lv' := [(4, .int ((0 : Int32))), (0, .ref (ad 0)), (1, .int (nI (t))), (2, .int (field)), (3, .int (factor))]) hx hb dX7_scaleField_5 hl (by decide) rfl (fun ls hl => ?_)
    refine lv_iload hx hb dX7_scaleField_7 (lv_at hl 0 rfl) ?_
    refine lv_if_eq (tgt := 15) hx hb dX7_scaleField_9 (by decide) (fun _ => ?_) (fun c9 => absurd (by decide) c9)
    refine lv_aload_n hx hb dX7_scaleField_15 rfl (lv_at hl 1 rfl) ?_
    refine lv_iload_n hx hb dX7_scaleField_16 rfl (lv_at hl 2 rfl) ?_
    refine hx_Vi (rest := []) S X (c_X7_stagedNow l G ad σ (t) hI ht hk3) gX7_scaleField_X7_stagedNow rfl (n := 1) (by decide +kernel) rfl ⟨(Nat.le_of_ble_eq_true rfl), (Nat.le_of_ble_eq_true rfl)⟩ (hx_recvL (q0 := 0) (ci := 7) X rfl (mW_0 _ _ _)) hl.1 rfl (Nat.le_of_ble_eq_true rfl) dX7_scaleField_17 ⟨(Nat.le_of_ble_eq_true rfl), (Nat.le_of_ble_eq_true rfl)⟩ (fun r wd1 H locs hp X => ?_)
    obtain ⟨rfl, rfl⟩ := hp
    refine lv_istore (lv' := [(5, .int (sset σ (t))), (4, .int ((0 : Int32))), (0, .ref (ad 0)), (1, .int (nI (t))), (2, .int (field)), (3, .int (factor))]) hx hb dX7_scaleField_20 hl (by decide) rfl (fun ls hl => ?_)
    refine lv_iload hx hb dX7_scaleField_22 (lv_at hl 0 rfl) ?_
    refine lv_iload_n hx hb dX7_scaleField_24 rfl (lv_at hl 4 rfl) ?_
    refine hx_Si (rest := []) S X (c_X7_has l G _ (sset σ (t)) (field)) gX7_scaleField_X7_has rfl (n := 2) (by decide +kernel) rfl ⟨(Nat.le_of_ble_eq_true rfl), (Nat.le_of_ble_eq_true rfl)⟩ hl.1 rfl (Nat.le_of_ble_eq_true rfl) dX7_scaleField_25 ⟨(Nat.le_of_ble_eq_true rfl), (Nat.le_of_ble_eq_true rfl)⟩ (fun r wd1 H locs hp X => ?_)
    obtain ⟨hr25, rfl⟩ := hp
    by_cases h25 : hasF (sset σ (t)) (field)
    · skip
      refine hx_ei (hr25.1 h25) ?_
      refine lv_if_ne (tgt := 34) hx hb dX7_scaleField_28 (by decide) (fun _ => ?_) (fun c9 => absurd c9 (by decide))
      refine lv_iload_n hx hb dX7_scaleField_34 rfl (lv_at hl 5 rfl) ?_
      refine lv_ldc (v := -100000) hx hb hown (hts (Cond.constant RX7 87 (-100000)) (by decide +kernel)) dX7_scaleField_35 ?_
      refine lv_ldc (v := 100000) hx hb hown (hts (Cond.constant RX7 88 (100000)) (by decide +kernel)) dX7_scaleField_37 ?_
      refine hx_Si (rest := []) S X (c_X7_in l G _ (factor) ((-100000 : Int32)) ((100000 : Int32))) gX7_scaleField_X7_in rfl (n := 3) (by decide +kernel) rfl ⟨(Nat.le_of_ble_eq_true rfl), (Nat.le_of_ble_eq_true rfl)⟩ hl.1 rfl (Nat.le_of_ble_eq_true rfl) dX7_scaleField_39 ⟨(Nat.le_of_ble_eq_true rfl), (Nat.le_of_ble_eq_true rfl)⟩ (fun r wd1 H locs hp X => ?_)
      obtain ⟨hr39, rfl⟩ := hp
      by_cases h39 : -100000 ≤ factor ∧ factor ≤ 100000
      · skip
        refine hx_ei (hr39.1 h39) ?_
        refine lv_if_eq (tgt := 58) hx hb dX7_scaleField_42 (by decide) (fun c9 => absurd c9 (by decide)) (fun _ => ?_)
        refine lv_aload_n hx hb dX7_scaleField_45 rfl (lv_at hl 2 rfl) ?_
        refine lv_iload_n hx hb dX7_scaleField_46 rfl (lv_at hl 3 rfl) ?_
        refine lv_iconst (v := 3) hx hb dX7_scaleField_47 (by decide) ?_
        refine lv_iload_n hx hb dX7_scaleField_48 rfl (lv_at hl 4 rfl) ?_
        refine lv_iload_n hx hb dX7_scaleField_49 rfl (lv_at hl 5 rfl) ?_
        refine lv_iload hx hb dX7_scaleField_50 (lv_at hl 0 rfl) ?_
        refine hx_Vi (rest := []) S X (c_X7_append l G ad σ (t) ((3 : Int32)) (field) (factor) (sset σ (t)) hI ht hk3) gX7_scaleField_X7_append rfl (n := 5) (by decide +kernel) rfl ⟨(Nat.le_of_ble_eq_true rfl), (Nat.le_of_ble_eq_true rfl)⟩ (hx_recvL (q0 := 0) (ci := 7) X rfl (mW_0 _ _ _)) hl.1 rfl (Nat.le_of_ble_eq_true rfl) dX7_scaleField_52 ⟨(Nat.le_of_ble_eq_true rfl), (Nat.le_of_ble_eq_true rfl)⟩ (fun r wd1 H locs hp X => ?_)
        obtain ⟨rfl, rfl⟩ := hp
        refine lv_goto (tgt := 60) hx hb dX7_scaleField_55 (by decide) ?_
        exact hx_iret S X hr hlk (Nat.le_of_ble_eq_true rfl) (Nat.le_of_ble_eq_true rfl) (by simp [M_scaleField, wif_t, wif_f, w1, w2, hct, h25, h39]) dX7_scaleField_60
      · skip
        refine hx_ei (hr39.2 h39) ?_
        refine lv_if_eq (tgt := 58) hx hb dX7_scaleField_42 (by decide) (fun _ => ?_) (fun c9 => absurd (by decide) c9)
        refine lv_ldc (v := -2000007) hx hb hown (hts (Cond.constant RX7 56 (-2000007)) (by decide +kernel)) dX7_scaleField_58 ?_
        exact hx_iret S X hr hlk (Nat.le_of_ble_eq_true rfl) (Nat.le_of_ble_eq_true rfl) (by simp [M_scaleField, wif_t, wif_f, w1, w2, hct, h25, h39]) dX7_scaleField_60
    · skip
      refine hx_ei (hr25.2 h25) ?_
      refine lv_if_ne (tgt := 34) hx hb dX7_scaleField_28 (by decide) (fun c9 => absurd (by decide) c9) (fun _ => ?_)
      refine lv_ldc (v := -2000005) hx hb hown (hts (Cond.constant RX7 86 (-2000005)) (by decide +kernel)) dX7_scaleField_31 ?_
      exact hx_iret S X hr hlk (Nat.le_of_ble_eq_true rfl) (Nat.le_of_ble_eq_true rfl) (by simp [M_scaleField, wif_t, wif_f, w1, w2, hct, h25]) dX7_scaleField_33

set_option maxRecDepth 100000 in
set_option maxHeartbeats 4000000 in
theorem c_X7_mergeField (l : Launch) (G : hG) (ad : Nat → Nat) (σ : Sg) (type fr into : Int32) (hI : Inv σ) : hMi l G yX7_mergeField wsX7_mergeField ({ frames := 3, cells := 0, slots := 0, locals := 71 } : Room) (mW G ad σ) [.ref (ad 0), .int (type), .int (fr), .int (into)] (fun r w => r = (M_mergeField σ type fr into).1 ∧ w = mW G ad (M_mergeField σ type fr into).2) := by
  refine hMi.of (cc := cX7_mergeField) (maxL := 6) (some .int) RX7 rfl (by decide +kernel) rfl (Nat.le_of_ble_eq_true rfl) ?_
  intro p e s m args below meth c S hr hlk X ls hl
  have hx := S.1
  have hb := S.2.1
  have hown := S.2.2.2.1
  have hts := S.2.2.2.2
  have hl : lv_has ls 6 [(0, .ref (ad 0)), (1, .int (type)), (2, .int (fr)), (3, .int (into))] := hl
  have hin7 : ∀ w ∈ wsX70, w ∈ wsX7_mergeField := by decide +kernel
  have hC6 : nC σ ≤ 6 := hI.1.2
  have hO24 : nO σ ≤ 24 := hI.2.1.2
  refine lv_aload_n hx hb dX7_mergeField_0 rfl (lv_at hl 0 rfl) ?_
  refine lv_iload_n hx hb dX7_mergeField_1 rfl (lv_at hl 1 rfl) ?_
  refine hx_Vi (rest := []) S X (c_X7_wrongStage l G ad σ (type) hI) gX7_mergeField_X7_wrongStage rfl (n := 1) (by decide +kernel) rfl ⟨(Nat.le_of_ble_eq_true rfl), (Nat.le_of_ble_eq_true rfl)⟩ (hx_recvL (q0 := 0) (ci := 7) X rfl (mW_0 _ _ _)) hl.1 rfl (Nat.le_of_ble_eq_true rfl) dX7_mergeField_2 ⟨(Nat.le_of_ble_eq_true rfl), (Nat.le_of_ble_eq_true rfl)⟩ (fun r wd1 H locs hp X => ?_)
  obtain ⟨rfl, rfl⟩ := hp
  rcases ws_cases hI type with ⟨w1, w2⟩ | ⟨t, ht, rfl, w1, w2⟩ | ⟨t, ht, rfl, w1, w2⟩
  · skip
    refine hx_ei (show _ = (-2000001 : Int32) from w2) ?_
    refine lv_istore (lv' := [(4, .int ((-2000001 : Int32))), (0, .ref (ad 0)), (1, .int (type)), (2, .int (fr)), (3, .int (into))]) hx hb dX7_mergeField_5 hl (by decide) rfl (fun ls hl => ?_)
    refine lv_iload hx hb dX7_mergeField_7 (lv_at hl 0 rfl) ?_
    refine lv_if_eq (tgt := 15) hx hb dX7_mergeField_9 (by decide) (fun c9 => absurd c9 (by decide)) (fun _ => ?_)
    refine lv_iload hx hb dX7_mergeField_12 (lv_at hl 0 rfl) ?_
    exact hx_iret S X hr hlk (Nat.le_of_ble_eq_true rfl) (Nat.le_of_ble_eq_true rfl) (by simp [M_mergeField, wif_t, wif_f, w1, w2]) dX7_mergeField_14
  · skip
    refine hx_ei (show _ = (-2000008 : Int32) from w2) ?_
    refine lv_istore (lv' := [(4, .int ((-2000008 : Int32))), (0, .ref (ad 0)), (1, .int (nI (t))), (2, .int (fr)), (3, .int (into))]) hx hb dX7_mergeField_5 hl (by decide) rfl (fun ls hl => ?_)
    refine lv_iload hx hb dX7_mergeField_7 (lv_at hl 0 rfl) ?_
    refine lv_if_eq (tgt := 15) hx hb dX7_mergeField_9 (by decide) (fun c9 => absurd c9 (by decide)) (fun _ => ?_)
    refine lv_iload hx hb dX7_mergeField_12 (lv_at hl 0 rfl) ?_
    exact hx_iret S X hr hlk (Nat.le_of_ble_eq_true rfl) (Nat.le_of_ble_eq_true rfl) (by simp [M_mergeField, wif_t, wif_f, w1, w2]) dX7_mergeField_14
  · skip
    have hct : (nI t).toNatClampNeg = t := nI_clamp (by omega)
    obtain ⟨⟨hk0, hk1, hk2⟩, hks, hkv⟩ := hI.2.2.1 t ht
    have hk3 : cnt σ t ≤ 7 := hks.elim (fun q => absurd q w1) (fun q => q.2)
    refine hx_ei (show _ = (0 : Int32) from w2) ?_
    refine lv_istore (lv' := [(4, .int ((0 : Int32))), (0, .ref (ad 0)), (1, .int (nI (t))), (2, .int (fr)), (3, .int (into))]) hx hb dX7_mergeField_5 hl (by decide) rfl (fun ls hl => ?_)
    refine lv_iload hx hb dX7_mergeField_7 (lv_at hl 0 rfl) ?_
    refine lv_if_eq (tgt := 15) hx hb dX7_mergeField_9 (by decide) (fun _ => ?_) (fun c9 => absurd (by decide) c9)
    refine lv_aload_n hx hb dX7_mergeField_15 rfl (lv_at hl 1 rfl) ?_
    refine lv_iload_n hx hb dX7_mergeField_16 rfl (lv_at hl 2 rfl) ?_
    refine hx_Vi (rest := []) S X (c_X7_stagedNow l G ad σ (t) hI ht hk3) gX7_mergeField_X7_stagedNow rfl (n := 1) (by decide +kernel) rfl ⟨(Nat.le_of_ble_eq_true rfl), (Nat.le_of_ble_eq_true rfl)⟩ (hx_recvL (q0 := 0) (ci := 7) X rfl (mW_0 _ _ _)) hl.1 rfl (Nat.le_of_ble_eq_true rfl) dX7_mergeField_17 ⟨(Nat.le_of_ble_eq_true rfl), (Nat.le_of_ble_eq_true rfl)⟩ (fun r wd1 H locs hp X => ?_)
    obtain ⟨rfl, rfl⟩ := hp
    refine lv_istore (lv' := [(5, .int (sset σ (t))), (4, .int ((0 : Int32))), (0, .ref (ad 0)), (1, .int (nI (t))), (2, .int (fr)), (3, .int (into))]) hx hb dX7_mergeField_20 hl (by decide) rfl (fun ls hl => ?_)
    refine lv_iload hx hb dX7_mergeField_22 (lv_at hl 0 rfl) ?_
    refine lv_iload_n hx hb dX7_mergeField_24 rfl (lv_at hl 4 rfl) ?_
    refine hx_Si (rest := []) S X (c_X7_has l G _ (sset σ (t)) (fr)) gX7_mergeField_X7_has rfl (n := 2) (by decide +kernel) rfl ⟨(Nat.le_of_ble_eq_true rfl), (Nat.le_of_ble_eq_true rfl)⟩ hl.1 rfl (Nat.le_of_ble_eq_true rfl) dX7_mergeField_25 ⟨(Nat.le_of_ble_eq_true rfl), (Nat.le_of_ble_eq_true rfl)⟩ (fun r wd1 H locs hp X => ?_)
    obtain ⟨hr25, rfl⟩ := hp
    by_cases h25 : hasF (sset σ (t)) (fr)
    · skip
      refine hx_ei (hr25.1 h25) ?_
      refine lv_if_eq (tgt := 40) hx hb dX7_mergeField_28 (by decide) (fun c9 => absurd c9 (by decide)) (fun _ => ?_)
      refine lv_iload hx hb dX7_mergeField_31 (lv_at hl 0 rfl) ?_
      refine lv_iload_n hx hb dX7_mergeField_33 rfl (lv_at hl 5 rfl) ?_
      refine hx_Si (rest := []) S X (c_X7_has l G _ (sset σ (t)) (into)) gX7_mergeField_X7_has rfl (n := 2) (by decide +kernel) rfl ⟨(Nat.le_of_ble_eq_true rfl), (Nat.le_of_ble_eq_true rfl)⟩ hl.1 rfl (Nat.le_of_ble_eq_true rfl) dX7_mergeField_34 ⟨(Nat.le_of_ble_eq_true rfl), (Nat.le_of_ble_eq_true rfl)⟩ (fun r wd1 H locs hp X => ?_)
      obtain ⟨hr34, rfl⟩ := hp
      by_cases h34 : hasF (sset σ (t)) (into)
      · skip
        refine hx_ei (hr34.1 h34) ?_
        refine lv_if_ne (tgt := 43) hx hb dX7_mergeField_37 (by decide) (fun _ => ?_) (fun c9 => absurd c9 (by decide))
        refine lv_iload_n hx hb dX7_mergeField_43 rfl (lv_at hl 4 rfl) ?_
        refine lv_iload_n hx hb dX7_mergeField_44 rfl (lv_at hl 5 rfl) ?_
        refine lv_icmp_ne (tgt := 53) hx hb dX7_mergeField_45 (by decide) (fun c45 => ?_) (fun c45 => ?_)
        · skip
          refine lv_aload_n hx hb dX7_mergeField_53 rfl (lv_at hl 2 rfl) ?_
          refine lv_iload_n hx hb dX7_mergeField_54 rfl (lv_at hl 3 rfl) ?_
          refine lv_iconst (v := 4) hx hb dX7_mergeField_55 (by decide) ?_
          refine lv_iload_n hx hb dX7_mergeField_56 rfl (lv_at hl 4 rfl) ?_
          refine lv_iload_n hx hb dX7_mergeField_57 rfl (lv_at hl 5 rfl) ?_
          refine lv_iload hx hb dX7_mergeField_58 (lv_at hl 0 rfl) ?_
          refine lv_iconst (v := 1) hx hb dX7_mergeField_60 (by decide) ?_
          refine lv_iload_n hx hb dX7_mergeField_61 rfl (lv_at hl 4 rfl) ?_
          refine lv_ishl hx hb dX7_mergeField_62 ?_
          refine lv_iconst (v := -1) hx hb dX7_mergeField_63 (by decide) ?_
          refine lv_ixor hx hb dX7_mergeField_64 ?_
          refine lv_iand hx hb dX7_mergeField_65 ?_
          refine hx_Vi (rest := []) S X (c_X7_append l G ad σ (t) ((4 : Int32)) (fr) (into) ((sset σ (t)) &&& ((((1 : Int32)) <<< ((fr) &&& 31)) ^^^ ((-1 : Int32)))) hI ht hk3) gX7_mergeField_X7_append rfl (n := 5) (by decide +kernel) rfl ⟨(Nat.le_of_ble_eq_true rfl), (Nat.le_of_ble_eq_true rfl)⟩ (hx_recvL (q0 := 0) (ci := 7) X rfl (mW_0 _ _ _)) hl.1 rfl (Nat.le_of_ble_eq_true rfl) dX7_mergeField_66 ⟨(Nat.le_of_ble_eq_true rfl), (Nat.le_of_ble_eq_true rfl)⟩ (fun r wd1 H locs hp X => ?_)
          obtain ⟨rfl, rfl⟩ := hp
          exact hx_iret S X hr hlk (Nat.le_of_ble_eq_true rfl) (Nat.le_of_ble_eq_true rfl) (by simp [M_mergeField, wif_t, wif_f, w1, w2, hct, h25, h34, c45]) dX7_mergeField_69
        · skip
          refine lv_ldc (v := -2000007) hx hb hown (hts (Cond.constant RX7 56 (-2000007)) (by decide +kernel)) dX7_mergeField_48 ?_
          refine lv_goto (tgt := 69) hx hb dX7_mergeField_50 (by decide) ?_
          exact hx_iret S X hr hlk (Nat.le_of_ble_eq_true rfl) (Nat.le_of_ble_eq_true rfl) (by simp [M_mergeField, wif_t, wif_f, w1, w2, hct, h25, h34, c45]) dX7_mergeField_69
      · skip
        refine hx_ei (hr34.2 h34) ?_
        refine lv_if_ne (tgt := 43) hx hb dX7_mergeField_37 (by decide) (fun c9 => absurd (by decide) c9) (fun _ => ?_)
        refine lv_ldc (v := -2000005) hx hb hown (hts (Cond.constant RX7 86 (-2000005)) (by decide +kernel)) dX7_mergeField_40 ?_
        exact hx_iret S X hr hlk (Nat.le_of_ble_eq_true rfl) (Nat.le_of_ble_eq_true rfl) (by simp [M_mergeField, wif_t, wif_f, w1, w2, hct, h25, h34]) dX7_mergeField_42
    · skip
      refine hx_ei (hr25.2 h25) ?_
      refine lv_if_eq (tgt := 40) hx hb dX7_mergeField_28 (by decide) (fun _ => ?_) (fun c9 => absurd (by decide) c9)
      refine lv_ldc (v := -2000005) hx hb hown (hts (Cond.constant RX7 86 (-2000005)) (by decide +kernel)) dX7_mergeField_40 ?_
      exact hx_iret S X hr hlk (Nat.le_of_ble_eq_true rfl) (Nat.le_of_ble_eq_true rfl) (by simp [M_mergeField, wif_t, wif_f, w1, w2, hct, h25]) dX7_mergeField_42

set_option maxRecDepth 100000 in
set_option maxHeartbeats 4000000 in
theorem c_X7_activate (l : Launch) (G : hG) (ad : Nat → Nat) (σ : Sg) (type : Int32) (hI : Inv σ) : hMi l G yX7_activate wsX7_activate ({ frames := 3, cells := 0, slots := 0, locals := 64 } : Room) (mW G ad σ) [.ref (ad 0), .int (type)] (fun r w => r = (M_activate σ type).1 ∧ w = mW G ad (M_activate σ type).2) := by
  refine hMi.of (cc := cX7_activate) (maxL := 3) (some .int) RX7 rfl (by decide +kernel) rfl (Nat.le_of_ble_eq_true rfl) ?_
  intro p e s m args below meth c S hr hlk X ls hl
  have hx := S.1
  have hb := S.2.1
  have hown := S.2.2.2.1
  have hts := S.2.2.2.2
  have hl : lv_has ls 3 [(0, .ref (ad 0)), (1, .int (type))] := hl
  have hin7 : ∀ w ∈ wsX70, w ∈ wsX7_activate := by decide +kernel
  have hC6 : nC σ ≤ 6 := hI.1.2
  have hO24 : nO σ ≤ 24 := hI.2.1.2
  refine lv_aload_n hx hb dX7_activate_0 rfl (lv_at hl 0 rfl) ?_
  refine lv_iload_n hx hb dX7_activate_1 rfl (lv_at hl 1 rfl) ?_
  refine hx_Vi (rest := []) S X (c_X7_wrongStage l G ad σ (type) hI) gX7_activate_X7_wrongStage rfl (n := 1) (by decide +kernel) rfl ⟨(Nat.le_of_ble_eq_true rfl), (Nat.le_of_ble_eq_true rfl)⟩ (hx_recvL (q0 := 0) (ci := 7) X rfl (mW_0 _ _ _)) hl.1 rfl (Nat.le_of_ble_eq_true rfl) dX7_activate_2 ⟨(Nat.le_of_ble_eq_true rfl), (Nat.le_of_ble_eq_true rfl)⟩ (fun r wd1 H locs hp X => ?_)
  obtain ⟨rfl, rfl⟩ := hp
  rcases ws_cases hI type with ⟨w1, w2⟩ | ⟨t, ht, rfl, w1, w2⟩ | ⟨t, ht, rfl, w1, w2⟩
  · skip
    refine hx_ei (show _ = (-2000001 : Int32) from w2) ?_
    refine lv_istore_n (lv' := [(2, .int ((-2000001 : Int32))), (0, .ref (ad 0)), (1, .int (type))]) hx hb dX7_activate_5 rfl hl (by decide) rfl (fun ls hl => ?_)
    refine lv_iload_n hx hb dX7_activate_6 rfl (lv_at hl 0 rfl) ?_
    refine lv_if_eq (tgt := 12) hx hb dX7_activate_7 (by decide) (fun c9 => absurd c9 (by decide)) (fun _ => ?_)
    refine lv_iload_n hx hb dX7_activate_10 rfl (lv_at hl 0 rfl) ?_
    exact hx_iret S X hr hlk (Nat.le_of_ble_eq_true rfl) (Nat.le_of_ble_eq_true rfl) (by simp [M_activate, wif_t, wif_f, w1, w2]) dX7_activate_11
  · skip
    refine hx_ei (show _ = (-2000008 : Int32) from w2) ?_
    refine lv_istore_n (lv' := [(2, .int ((-2000008 : Int32))), (0, .ref (ad 0)), (1, .int (nI (t)))]) hx hb dX7_activate_5 rfl hl (by decide) rfl (fun ls hl => ?_)
    refine lv_iload_n hx hb dX7_activate_6 rfl (lv_at hl 0 rfl) ?_
    refine lv_if_eq (tgt := 12) hx hb dX7_activate_7 (by decide) (fun c9 => absurd c9 (by decide)) (fun _ => ?_)
    refine lv_iload_n hx hb dX7_activate_10 rfl (lv_at hl 0 rfl) ?_
    exact hx_iret S X hr hlk (Nat.le_of_ble_eq_true rfl) (Nat.le_of_ble_eq_true rfl) (by simp [M_activate, wif_t, wif_f, w1, w2]) dX7_activate_11
  · skip
    have hct : (nI t).toNatClampNeg = t := nI_clamp (by omega)
    obtain ⟨⟨hk0, hk1, hk2⟩, hks, hkv⟩ := hI.2.2.1 t ht
    have hk3 : cnt σ t ≤ 7 := hks.elim (fun q => absurd q w1) (fun q => q.2)
    refine hx_ei (show _ = (0 : Int32) from w2) ?_
    refine lv_istore_n (lv' := [(2, .int ((0 : Int32))), (0, .ref (ad 0)), (1, .int (nI (t)))]) hx hb dX7_activate_5 rfl hl (by decide) rfl (fun ls hl => ?_)
    refine lv_iload_n hx hb dX7_activate_6 rfl (lv_at hl 0 rfl) ?_
    refine lv_if_eq (tgt := 12) hx hb dX7_activate_7 (by decide) (fun _ => ?_) (fun c9 => absurd (by decide) c9)
    refine lv_aload_n hx hb dX7_activate_12 rfl (lv_at hl 1 rfl) ?_
    refine hx_getL S X (ci := 7) 0 (mW_0 _ _ _) rfl hin7 1 (by decide) (by decide +kernel) rfl dX7_activate_13 ?_
    refine lv_iload_n hx hb dX7_activate_16 rfl (lv_at hl 2 rfl) ?_
    refine lv_iconst (v := 1) hx hb dX7_activate_17 (by decide) ?_
    refine hx_Si (rest := [.ref (ad 1)]) S X (c_X7_at l G _ (t) (1)) gX7_activate_X7_at rfl (n := 2) (by decide +kernel) rfl ⟨(Nat.le_of_ble_eq_true rfl), (Nat.le_of_ble_eq_true rfl)⟩ hl.1 rfl (Nat.le_of_ble_eq_true rfl) dX7_activate_18 ⟨(Nat.le_of_ble_eq_true rfl), (Nat.le_of_ble_eq_true rfl)⟩ (fun r wd1 H locs hp X => ?_)
    obtain ⟨rfl, rfl⟩ := hp
    refine lv_iconst (v := 0) hx hb dX7_activate_21 (by decide) ?_
    refine mx_st S X 1 (N := 972) (mW_1 _ _ _) (j := 162 * t + 1) (by omega) (by decide) (x := (0 : Int32)) dX7_activate_22 (mW_s1 _ _ _ _ _) (fun H locs X => ?_)
    refine lv_aload_n hx hb dX7_activate_23 rfl (lv_at hl 1 rfl) ?_
    refine hx_getL S X (ci := 7) 0 (mW_0 _ _ _) rfl hin7 1 (by decide) (by decide +kernel) rfl dX7_activate_24 ?_
    refine lv_iload_n hx hb dX7_activate_27 rfl (lv_at hl 2 rfl) ?_
    refine lv_iconst (v := 0) hx hb dX7_activate_28 (by decide) ?_
    refine hx_Si (rest := [.ref (ad 1)]) S X (c_X7_at l G _ (t) (0)) gX7_activate_X7_at rfl (n := 2) (by decide +kernel) rfl ⟨(Nat.le_of_ble_eq_true rfl), (Nat.le_of_ble_eq_true rfl)⟩ hl.1 rfl (Nat.le_of_ble_eq_true rfl) dX7_activate_29 ⟨(Nat.le_of_ble_eq_true rfl), (Nat.le_of_ble_eq_true rfl)⟩ (fun r wd1 H locs hp X => ?_)
    obtain ⟨rfl, rfl⟩ := hp
    refine lv_dup2_11 hx hb dX7_activate_32 rfl rfl ?_
    refine mx_ld S X 1 (N := 972) (mW_1 _ _ _) (j := 162 * t + 0) (by omega) (by decide) (x := nI (cnt σ t)) (by rw [mS_ne _ _ _ (by omega)]; exact hk0) dX7_activate_33 ?_
    refine lv_iconst (v := 1) hx hb dX7_activate_34 (by decide) ?_
    refine lv_iadd hx hb dX7_activate_35 ?_
    refine hx_ei (show _ = nI (cnt σ t + 1) from nI_add (cnt σ t) (1)) ?_
    refine mx_st S X 1 (N := 972) (mW_1 _ _ _) (j := 162 * t + 0) (by omega) (by decide) (x := nI (cnt σ t + 1)) dX7_activate_36 (mW_s1 _ _ _ _ _) (fun H locs X => ?_)
    refine lv_aload_n hx hb dX7_activate_37 rfl (lv_at hl 1 rfl) ?_
    refine lv_iload_n hx hb dX7_activate_38 rfl (lv_at hl 2 rfl) ?_
    refine hx_Vi (rest := []) S X (c_X7_current l G ad (mS (mS σ 1 (162 * t + 1) ((0 : Int32))) 1 (162 * t + 0) (nI (cnt σ t + 1))) (t) (by omega)) gX7_activate_X7_current rfl (n := 1) (by decide +kernel) rfl ⟨(Nat.le_of_ble_eq_true rfl), (Nat.le_of_ble_eq_true rfl)⟩ (hx_recvL (q0 := 0) (ci := 7) X rfl (mW_0 _ _ _)) hl.1 rfl (Nat.le_of_ble_eq_true rfl) dX7_activate_39 ⟨(Nat.le_of_ble_eq_true rfl), (Nat.le_of_ble_eq_true rfl)⟩ (fun r wd1 H locs hp X => ?_)
    obtain ⟨rfl, rfl⟩ := hp
    refine hx_ei (show _ = nI (cnt σ t + 1) - 1 from by rw [show (mS (mS σ 1 (162 * t + 1) ((0 : Int32))) 1 (162 * t + 0) (nI (cnt σ t + 1))) 1 (162 * t + 0) = nI (cnt σ t + 1) from by rw [mS_eq]]) ?_
    exact hx_iret S X hr hlk (Nat.le_of_ble_eq_true rfl) (Nat.le_of_ble_eq_true rfl) (by simp [M_activate, wif_t, wif_f, w1, w2, hct]) dX7_activate_42

set_option maxRecDepth 100000 in
set_option maxHeartbeats 4000000 in
theorem c_X7_discard (l : Launch) (G : hG) (ad : Nat → Nat) (σ : Sg) (type : Int32) (hI : Inv σ) : hMi l G yX7_discard wsX7_discard ({ frames := 3, cells := 0, slots := 0, locals := 64 } : Room) (mW G ad σ) [.ref (ad 0), .int (type)] (fun r w => r = (M_discard σ type).1 ∧ w = mW G ad (M_discard σ type).2) := by
  refine hMi.of (cc := cX7_discard) (maxL := 3) (some .int) RX7 rfl (by decide +kernel) rfl (Nat.le_of_ble_eq_true rfl) ?_
  intro p e s m args below meth c S hr hlk X ls hl
  have hx := S.1
  have hb := S.2.1
  have hown := S.2.2.2.1
  have hts := S.2.2.2.2
  have hl : lv_has ls 3 [(0, .ref (ad 0)), (1, .int (type))] := hl
  have hin7 : ∀ w ∈ wsX70, w ∈ wsX7_discard := by decide +kernel
  have hC6 : nC σ ≤ 6 := hI.1.2
  have hO24 : nO σ ≤ 24 := hI.2.1.2
  refine lv_aload_n hx hb dX7_discard_0 rfl (lv_at hl 0 rfl) ?_
  refine lv_iload_n hx hb dX7_discard_1 rfl (lv_at hl 1 rfl) ?_
  refine hx_Vi (rest := []) S X (c_X7_wrongStage l G ad σ (type) hI) gX7_discard_X7_wrongStage rfl (n := 1) (by decide +kernel) rfl ⟨(Nat.le_of_ble_eq_true rfl), (Nat.le_of_ble_eq_true rfl)⟩ (hx_recvL (q0 := 0) (ci := 7) X rfl (mW_0 _ _ _)) hl.1 rfl (Nat.le_of_ble_eq_true rfl) dX7_discard_2 ⟨(Nat.le_of_ble_eq_true rfl), (Nat.le_of_ble_eq_true rfl)⟩ (fun r wd1 H locs hp X => ?_)
  obtain ⟨rfl, rfl⟩ := hp
  rcases ws_cases hI type with ⟨w1, w2⟩ | ⟨t, ht, rfl, w1, w2⟩ | ⟨t, ht, rfl, w1, w2⟩
  · skip
    refine hx_ei (show _ = (-2000001 : Int32) from w2) ?_
    refine lv_istore_n (lv' := [(2, .int ((-2000001 : Int32))), (0, .ref (ad 0)), (1, .int (type))]) hx hb dX7_discard_5 rfl hl (by decide) rfl (fun ls hl => ?_)
    refine lv_iload_n hx hb dX7_discard_6 rfl (lv_at hl 0 rfl) ?_
    refine lv_if_eq (tgt := 12) hx hb dX7_discard_7 (by decide) (fun c9 => absurd c9 (by decide)) (fun _ => ?_)
    refine lv_iload_n hx hb dX7_discard_10 rfl (lv_at hl 0 rfl) ?_
    exact hx_iret S X hr hlk (Nat.le_of_ble_eq_true rfl) (Nat.le_of_ble_eq_true rfl) (by simp [M_discard, wif_t, wif_f, w1, w2]) dX7_discard_11
  · skip
    refine hx_ei (show _ = (-2000008 : Int32) from w2) ?_
    refine lv_istore_n (lv' := [(2, .int ((-2000008 : Int32))), (0, .ref (ad 0)), (1, .int (nI (t)))]) hx hb dX7_discard_5 rfl hl (by decide) rfl (fun ls hl => ?_)
    refine lv_iload_n hx hb dX7_discard_6 rfl (lv_at hl 0 rfl) ?_
    refine lv_if_eq (tgt := 12) hx hb dX7_discard_7 (by decide) (fun c9 => absurd c9 (by decide)) (fun _ => ?_)
    refine lv_iload_n hx hb dX7_discard_10 rfl (lv_at hl 0 rfl) ?_
    exact hx_iret S X hr hlk (Nat.le_of_ble_eq_true rfl) (Nat.le_of_ble_eq_true rfl) (by simp [M_discard, wif_t, wif_f, w1, w2]) dX7_discard_11
  · skip
    have hct : (nI t).toNatClampNeg = t := nI_clamp (by omega)
    obtain ⟨⟨hk0, hk1, hk2⟩, hks, hkv⟩ := hI.2.2.1 t ht
    have hk3 : cnt σ t ≤ 7 := hks.elim (fun q => absurd q w1) (fun q => q.2)
    refine hx_ei (show _ = (0 : Int32) from w2) ?_
    refine lv_istore_n (lv' := [(2, .int ((0 : Int32))), (0, .ref (ad 0)), (1, .int (nI (t)))]) hx hb dX7_discard_5 rfl hl (by decide) rfl (fun ls hl => ?_)
    refine lv_iload_n hx hb dX7_discard_6 rfl (lv_at hl 0 rfl) ?_
    refine lv_if_eq (tgt := 12) hx hb dX7_discard_7 (by decide) (fun _ => ?_) (fun c9 => absurd (by decide) c9)
    refine lv_aload_n hx hb dX7_discard_12 rfl (lv_at hl 1 rfl) ?_
    refine hx_getL S X (ci := 7) 0 (mW_0 _ _ _) rfl hin7 1 (by decide) (by decide +kernel) rfl dX7_discard_13 ?_
    refine lv_iload_n hx hb dX7_discard_16 rfl (lv_at hl 2 rfl) ?_
    refine lv_iconst (v := 1) hx hb dX7_discard_17 (by decide) ?_
    refine hx_Si (rest := [.ref (ad 1)]) S X (c_X7_at l G _ (t) (1)) gX7_discard_X7_at rfl (n := 2) (by decide +kernel) rfl ⟨(Nat.le_of_ble_eq_true rfl), (Nat.le_of_ble_eq_true rfl)⟩ hl.1 rfl (Nat.le_of_ble_eq_true rfl) dX7_discard_18 ⟨(Nat.le_of_ble_eq_true rfl), (Nat.le_of_ble_eq_true rfl)⟩ (fun r wd1 H locs hp X => ?_)
    obtain ⟨rfl, rfl⟩ := hp
    refine lv_iconst (v := 0) hx hb dX7_discard_21 (by decide) ?_
    refine mx_st S X 1 (N := 972) (mW_1 _ _ _) (j := 162 * t + 1) (by omega) (by decide) (x := (0 : Int32)) dX7_discard_22 (mW_s1 _ _ _ _ _) (fun H locs X => ?_)
    refine lv_aload_n hx hb dX7_discard_23 rfl (lv_at hl 1 rfl) ?_
    refine lv_iload_n hx hb dX7_discard_24 rfl (lv_at hl 2 rfl) ?_
    refine lv_bipush (v := 10) hx hb dX7_discard_25 (by decide) ?_
    refine lv_aload_n hx hb dX7_discard_27 rfl (lv_at hl 1 rfl) ?_
    refine lv_iload_n hx hb dX7_discard_28 rfl (lv_at hl 2 rfl) ?_
    refine lv_iconst (v := 0) hx hb dX7_discard_29 (by decide) ?_
    refine hx_Vi (rest := [.int ((10 : Int32)), .int (nI (t)), .ref (ad 0)]) S X (c_X7_of l G ad (mS σ 1 (162 * t + 1) ((0 : Int32))) (t) (0) (by omega)) gX7_discard_X7_of rfl (n := 2) (by decide +kernel) rfl ⟨(Nat.le_of_ble_eq_true rfl), (Nat.le_of_ble_eq_true rfl)⟩ (hx_recvL (q0 := 0) (ci := 7) X rfl (mW_0 _ _ _)) hl.1 rfl (Nat.le_of_ble_eq_true rfl) dX7_discard_30 ⟨(Nat.le_of_ble_eq_true rfl), (Nat.le_of_ble_eq_true rfl)⟩ (fun r wd1 H locs hp X => ?_)
    obtain ⟨rfl, rfl⟩ := hp
    refine hx_ei (show _ = nI (cnt σ t) from by rw [mS_ne _ _ _ (by omega)]; exact hk0) ?_
    refine lv_iadd hx hb dX7_discard_33 ?_
    refine hx_ei (show _ = nI (10 + cnt σ t) from nI_add (10) (cnt σ t)) ?_
    refine hx_Vi (rest := []) S X (c_X7_of l G ad (mS σ 1 (162 * t + 1) ((0 : Int32))) (t) (10 + cnt σ t) (by omega)) gX7_discard_X7_of rfl (n := 2) (by decide +kernel) rfl ⟨(Nat.le_of_ble_eq_true rfl), (Nat.le_of_ble_eq_true rfl)⟩ (hx_recvL (q0 := 0) (ci := 7) X rfl (mW_0 _ _ _)) hl.1 rfl (Nat.le_of_ble_eq_true rfl) dX7_discard_34 ⟨(Nat.le_of_ble_eq_true rfl), (Nat.le_of_ble_eq_true rfl)⟩ (fun r wd1 H locs hp X => ?_)
    obtain ⟨rfl, rfl⟩ := hp
    refine hx_ei (show _ = nI (stp σ t (cnt σ t)) from by rw [mS_ne _ _ _ (by omega)]; exact (hkv (cnt σ t) (by omega)).1.1) ?_
    exact hx_iret S X hr hlk (Nat.le_of_ble_eq_true rfl) (Nat.le_of_ble_eq_true rfl) (by simp [M_discard, wif_t, wif_f, w1, w2, hct]) dX7_discard_37

set_option maxRecDepth 100000 in
set_option maxHeartbeats 4000000 in
theorem c_X7_isThread (l : Launch) (G : hG) (wd : va_W) (x : Int32)  : hMi l G yX7_isThread wsX7_isThread ({ frames := 1, cells := 0, slots := 0, locals := 22 } : Room) wd [.int (x)] (fun r w => isB r (isT x) ∧ w = wd) := by
  refine hMi.of (cc := cX7_isThread) (maxL := 1) (some .boolean) RX7 rfl (by decide +kernel) rfl (Nat.le_of_ble_eq_true rfl) ?_
  intro p e s m args below meth c S hr hlk X ls hl
  have hx := S.1
  have hb := S.2.1
  have hown := S.2.2.2.1
  have hts := S.2.2.2.2
  have hl : lv_has ls 1 [(0, .int (x))] := hl
  refine lv_iload_n hx hb dX7_isThread_0 rfl (lv_at hl 0 rfl) ?_
  refine lv_iconst (v := 0) hx hb dX7_isThread_1 (by decide) ?_
  refine lv_iconst (v := 3) hx hb dX7_isThread_2 (by decide) ?_
  refine hx_Si (rest := []) S X (c_X7_in l G _ (x) ((0 : Int32)) ((3 : Int32))) gX7_isThread_X7_in rfl (n := 3) (by decide +kernel) rfl ⟨(Nat.le_of_ble_eq_true rfl), (Nat.le_of_ble_eq_true rfl)⟩ hl.1 rfl (Nat.le_of_ble_eq_true rfl) dX7_isThread_3 ⟨(Nat.le_of_ble_eq_true rfl), (Nat.le_of_ble_eq_true rfl)⟩ (fun r wd1 H locs hp X => ?_)
  obtain ⟨hr3, rfl⟩ := hp
  exact hx_zret S X hr hlk (Nat.le_of_ble_eq_true rfl) (Nat.le_of_ble_eq_true rfl) (isB_nar hr3) ⟨isB_iff (in_1 (n := 3) (by decide) x) hr3, rfl⟩ dX7_isThread_6

set_option maxRecDepth 100000 in
set_option maxHeartbeats 4000000 in
theorem c_X7_call (l : Launch) (G : hG) (ad : Nat → Nat) (σ : Sg) (thread type : Int32) (hI : Inv σ) : hMi l G yX7_call wsX7_call ({ frames := 3, cells := 0, slots := 0, locals := 64 } : Room) (mW G ad σ) [.ref (ad 0), .int (thread), .int (type)] (fun r w => r = (M_call σ thread type).1 ∧ w = mW G ad (M_call σ thread type).2) := by
  refine hMi.of (cc := cX7_call) (maxL := 4) (some .int) RX7 rfl (by decide +kernel) rfl (Nat.le_of_ble_eq_true rfl) ?_
  intro p e s m args below meth c S hr hlk X ls hl
  have hx := S.1
  have hb := S.2.1
  have hown := S.2.2.2.1
  have hts := S.2.2.2.2
  have hl : lv_has ls 4 [(0, .ref (ad 0)), (1, .int (thread)), (2, .int (type))] := hl
  have hin7 : ∀ w ∈ wsX70, w ∈ wsX7_call := by decide +kernel
  have hC6 : nC σ ≤ 6 := hI.1.2
  have hO24 : nO σ ≤ 24 := hI.2.1.2
  refine lv_iload_n hx hb dX7_call_0 rfl (lv_at hl 1 rfl) ?_
  refine hx_Si (rest := []) S X (c_X7_isThread l G _ (thread)) gX7_call_X7_isThread rfl (n := 1) (by decide +kernel) rfl ⟨(Nat.le_of_ble_eq_true rfl), (Nat.le_of_ble_eq_true rfl)⟩ hl.1 rfl (Nat.le_of_ble_eq_true rfl) dX7_call_1 ⟨(Nat.le_of_ble_eq_true rfl), (Nat.le_of_ble_eq_true rfl)⟩ (fun r wd1 H locs hp X => ?_)
  obtain ⟨hr1, rfl⟩ := hp
  by_cases h1 : isT (thread)
  · skip
    refine hx_ei (hr1.1 h1) ?_
    have h1' := h1
    obtain ⟨th, hth, rfl⟩ := h1
    have hcth : (nI th).toNatClampNeg = th := nI_clamp (by omega)
    obtain ⟨hd0, hd8⟩ := hI.2.2.2.1 th hth
    refine lv_if_ne (tgt := 10) hx hb dX7_call_4 (by decide) (fun _ => ?_) (fun c9 => absurd c9 (by decide))
    refine lv_aload_n hx hb dX7_call_10 rfl (lv_at hl 0 rfl) ?_
    refine lv_iload_n hx hb dX7_call_11 rfl (lv_at hl 2 rfl) ?_
    refine hx_Vi (rest := []) S X (c_X7_isClass l G ad σ (type) hI) gX7_call_X7_isClass rfl (n := 1) (by decide +kernel) rfl ⟨(Nat.le_of_ble_eq_true rfl), (Nat.le_of_ble_eq_true rfl)⟩ (hx_recvL (q0 := 0) (ci := 7) X rfl (mW_0 _ _ _)) hl.1 rfl (Nat.le_of_ble_eq_true rfl) dX7_call_12 ⟨(Nat.le_of_ble_eq_true rfl), (Nat.le_of_ble_eq_true rfl)⟩ (fun r wd1 H locs hp X => ?_)
    obtain ⟨hr12, rfl⟩ := hp
    by_cases h12 : isC σ (type)
    · skip
      refine hx_ei (hr12.1 h12) ?_
      have h12' := h12
      obtain ⟨t, ht, rfl⟩ := h12
      have hct : (nI t).toNatClampNeg = t := nI_clamp (by omega)
      obtain ⟨⟨hk0, hk1, hk2⟩, hks, hkv⟩ := hI.2.2.1 t ht
      refine lv_if_ne (tgt := 21) hx hb dX7_call_15 (by decide) (fun _ => ?_) (fun c9 => absurd c9 (by decide))
      refine lv_aload_n hx hb dX7_call_21 rfl (lv_at hl 0 rfl) ?_
      refine hx_getL S X (ci := 7) 0 (mW_0 _ _ _) rfl hin7 2 (by decide) (by decide +kernel) rfl dX7_call_22 ?_
      refine lv_iload_n hx hb dX7_call_25 rfl (lv_at hl 1 rfl) ?_
      refine mx_ld S X 2 (N := 4) (mW_2 _ _ _) (j := th) (by omega) (by decide) (x := nI (dN σ th)) (hd0) dX7_call_26 ?_
      refine lv_bipush (v := 8) hx hb dX7_call_27 (by decide) ?_
      refine lv_icmp_ne (tgt := 35) hx hb dX7_call_29 (by decide) (fun c29 => ?_) (fun c29 => ?_)
      · skip
        have c29 := (not_congr (nI_eq (a := dN σ th) (b := 8) (by omega) (by omega))).mp c29
        refine lv_bipush (v := 8) hx hb dX7_call_35 (by decide) ?_
        refine lv_iload_n hx hb dX7_call_37 rfl (lv_at hl 1 rfl) ?_
        refine lv_imul hx hb dX7_call_38 ?_
        refine hx_ei (show _ = nI ((8) * (th)) from pk_mul (8) (th)) ?_
        refine lv_aload_n hx hb dX7_call_39 rfl (lv_at hl 0 rfl) ?_
        refine hx_getL S X (ci := 7) 0 (mW_0 _ _ _) rfl hin7 2 (by decide) (by decide +kernel) rfl dX7_call_40 ?_
        refine lv_iload_n hx hb dX7_call_43 rfl (lv_at hl 1 rfl) ?_
        refine mx_ld S X 2 (N := 4) (mW_2 _ _ _) (j := th) (by omega) (by decide) (x := nI (dN σ th)) (hd0) dX7_call_44 ?_
        refine lv_iadd hx hb dX7_call_45 ?_
        refine hx_ei (show _ = nI ((8) * (th) + dN σ th) from nI_add ((8) * (th)) (dN σ th)) ?_
        refine lv_istore_n (lv' := [(3, .int (nI ((8) * (th) + dN σ th))), (0, .ref (ad 0)), (1, .int (nI (th))), (2, .int (nI (t)))]) hx hb dX7_call_46 rfl hl (by decide) rfl (fun ls hl => ?_)
        refine lv_aload_n hx hb dX7_call_47 rfl (lv_at hl 1 rfl) ?_
        refine hx_getL S X (ci := 7) 0 (mW_0 _ _ _) rfl hin7 3 (by decide) (by decide +kernel) rfl dX7_call_48 ?_
        refine lv_iload_n hx hb dX7_call_51 rfl (lv_at hl 0 rfl) ?_
        refine lv_iload_n hx hb dX7_call_52 rfl (lv_at hl 3 rfl) ?_
        refine mx_st S X 3 (N := 32) (mW_3 _ _ _) (j := (8) * (th) + dN σ th) (by omega) (by decide) (x := nI (t)) dX7_call_53 (mW_s3 _ _ _ _ _) (fun H locs X => ?_)
        refine lv_aload_n hx hb dX7_call_54 rfl (lv_at hl 1 rfl) ?_
        refine hx_getL S X (ci := 7) 0 (mW_0 _ _ _) rfl hin7 4 (by decide) (by decide +kernel) rfl dX7_call_55 ?_
        refine lv_iload_n hx hb dX7_call_58 rfl (lv_at hl 0 rfl) ?_
        refine lv_aload_n hx hb dX7_call_59 rfl (lv_at hl 1 rfl) ?_
        refine lv_iload_n hx hb dX7_call_60 rfl (lv_at hl 3 rfl) ?_
        refine hx_Vi (rest := [.int (nI ((8) * (th) + dN σ th)), .ref (ad 4)]) S X (c_X7_current l G ad (mS σ 3 ((8) * (th) + dN σ th) (nI (t))) (t) (by omega)) gX7_call_X7_current rfl (n := 1) (by decide +kernel) rfl ⟨(Nat.le_of_ble_eq_true rfl), (Nat.le_of_ble_eq_true rfl)⟩ (hx_recvL (q0 := 0) (ci := 7) X rfl (mW_0 _ _ _)) hl.1 rfl (Nat.le_of_ble_eq_true rfl) dX7_call_61 ⟨(Nat.le_of_ble_eq_true rfl), (Nat.le_of_ble_eq_true rfl)⟩ (fun r wd1 H locs hp X => ?_)
        obtain ⟨rfl, rfl⟩ := hp
        refine hx_ei (show _ = nI (cnt σ t) - 1 from by rw [show (mS σ 3 ((8) * (th) + dN σ th) (nI (t))) 1 (162 * t + 0) = nI (cnt σ t) from by rw [mS_nk _ _ _ _ (by decide)]; exact hk0]) ?_
        refine mx_st S X 4 (N := 32) (mW_4 _ _ _) (j := (8) * (th) + dN σ th) (by omega) (by decide) (x := nI (cnt σ t) - 1) dX7_call_64 (mW_s4 _ _ _ _ _) (fun H locs X => ?_)
        refine lv_aload_n hx hb dX7_call_65 rfl (lv_at hl 1 rfl) ?_
        refine hx_getL S X (ci := 7) 0 (mW_0 _ _ _) rfl hin7 5 (by decide) (by decide +kernel) rfl dX7_call_66 ?_
        refine lv_iload_n hx hb dX7_call_69 rfl (lv_at hl 0 rfl) ?_
        refine lv_iconst (v := 0) hx hb dX7_call_70 (by decide) ?_
        refine mx_st S X 5 (N := 32) (mW_5 _ _ _) (j := (8) * (th) + dN σ th) (by omega) (by decide) (x := (0 : Int32)) dX7_call_71 (mW_s5 _ _ _ _ _) (fun H locs X => ?_)
        refine lv_aload_n hx hb dX7_call_72 rfl (lv_at hl 1 rfl) ?_
        refine hx_getL S X (ci := 7) 0 (mW_0 _ _ _) rfl hin7 2 (by decide) (by decide +kernel) rfl dX7_call_73 ?_
        refine lv_iload_n hx hb dX7_call_76 rfl (lv_at hl 2 rfl) ?_
        refine lv_dup2_11 hx hb dX7_call_77 rfl rfl ?_
        refine mx_ld S X 2 (N := 4) (mW_2 _ _ _) (j := th) (by omega) (by decide) (x := nI (dN σ th)) (by rw [mS_nk _ _ _ _ (by decide), mS_nk _ _ _ _ (by decide), mS_nk _ _ _ _ (by decide)]; exact hd0) dX7_call_78 ?_
        refine lv_iconst (v := 1) hx hb dX7_call_79 (by decide) ?_
        refine lv_iadd hx hb dX7_call_80 ?_
        refine hx_ei (show _ = nI (dN σ th + 1) from nI_add (dN σ th) (1)) ?_
        refine mx_st S X 2 (N := 4) (mW_2 _ _ _) (j := th) (by omega) (by decide) (x := nI (dN σ th + 1)) dX7_call_81 (mW_s2 _ _ _ _ _) (fun H locs X => ?_)
        refine lv_aload_n hx hb dX7_call_82 rfl (lv_at hl 1 rfl) ?_
        refine hx_getL S X (ci := 7) 0 (mW_0 _ _ _) rfl hin7 2 (by decide) (by decide +kernel) rfl dX7_call_83 ?_
        refine lv_iload_n hx hb dX7_call_86 rfl (lv_at hl 2 rfl) ?_
        refine mx_ld S X 2 (N := 4) (mW_2 _ _ _) (j := th) (by omega) (by decide) (x := nI (dN σ th + 1)) (by rw [mS_eq]) dX7_call_87 ?_
        exact hx_iret S X hr hlk (Nat.le_of_ble_eq_true rfl) (Nat.le_of_ble_eq_true rfl) (by simp [M_call, wif_t, wif_f, h1', hcth, h12', hct, c29]) dX7_call_88
      · skip
        have c29 := (nI_eq (a := dN σ th) (b := 8) (by omega) (by omega)).mp c29
        refine lv_ldc (v := -2000010) hx hb hown (hts (Cond.constant RX7 57 (-2000010)) (by decide +kernel)) dX7_call_32 ?_
        exact hx_iret S X hr hlk (Nat.le_of_ble_eq_true rfl) (Nat.le_of_ble_eq_true rfl) (by simp [M_call, wif_t, wif_f, h1', hcth, h12', hct, c29]) dX7_call_34
    · skip
      refine hx_ei (hr12.2 h12) ?_
      refine lv_if_ne (tgt := 21) hx hb dX7_call_15 (by decide) (fun c9 => absurd (by decide) c9) (fun _ => ?_)
      refine lv_ldc (v := -2000001) hx hb hown (hts (Cond.constant RX7 66 (-2000001)) (by decide +kernel)) dX7_call_18 ?_
      exact hx_iret S X hr hlk (Nat.le_of_ble_eq_true rfl) (Nat.le_of_ble_eq_true rfl) (by simp [M_call, wif_t, wif_f, h1', hcth, h12]) dX7_call_20
  · skip
    refine hx_ei (hr1.2 h1) ?_
    refine lv_if_ne (tgt := 10) hx hb dX7_call_4 (by decide) (fun c9 => absurd (by decide) c9) (fun _ => ?_)
    refine lv_ldc (v := -2000003) hx hb hown (hts (Cond.constant RX7 106 (-2000003)) (by decide +kernel)) dX7_call_7 ?_
    exact hx_iret S X hr hlk (Nat.le_of_ble_eq_true rfl) (Nat.le_of_ble_eq_true rfl) (by simp [M_call, wif_t, wif_f, h1]) dX7_call_9

set_option maxRecDepth 100000 in
set_option maxHeartbeats 4000000 in
theorem c_X7_finish (l : Launch) (G : hG) (ad : Nat → Nat) (σ : Sg) (thread : Int32) (hI : Inv σ) : hMi l G yX7_finish wsX7_finish ({ frames := 2, cells := 0, slots := 0, locals := 42 } : Room) (mW G ad σ) [.ref (ad 0), .int (thread)] (fun r w => r = (M_finish σ thread).1 ∧ w = mW G ad (M_finish σ thread).2) := by
  refine hMi.of (cc := cX7_finish) (maxL := 2) (some .int) RX7 rfl (by decide +kernel) rfl (Nat.le_of_ble_eq_true rfl) ?_
  intro p e s m args below meth c S hr hlk X ls hl
  have hx := S.1
  have hb := S.2.1
  have hown := S.2.2.2.1
  have hts := S.2.2.2.2
  have hl : lv_has ls 2 [(0, .ref (ad 0)), (1, .int (thread))] := hl
  have hin7 : ∀ w ∈ wsX70, w ∈ wsX7_finish := by decide +kernel
  have hC6 : nC σ ≤ 6 := hI.1.2
  have hO24 : nO σ ≤ 24 := hI.2.1.2
  refine lv_iload_n hx hb dX7_finish_0 rfl (lv_at hl 1 rfl) ?_
  refine hx_Si (rest := []) S X (c_X7_isThread l G _ (thread)) gX7_finish_X7_isThread rfl (n := 1) (by decide +kernel) rfl ⟨(Nat.le_of_ble_eq_true rfl), (Nat.le_of_ble_eq_true rfl)⟩ hl.1 rfl (Nat.le_of_ble_eq_true rfl) dX7_finish_1 ⟨(Nat.le_of_ble_eq_true rfl), (Nat.le_of_ble_eq_true rfl)⟩ (fun r wd1 H locs hp X => ?_)
  obtain ⟨hr1, rfl⟩ := hp
  by_cases h1 : isT (thread)
  · skip
    refine hx_ei (hr1.1 h1) ?_
    have h1' := h1
    obtain ⟨th, hth, rfl⟩ := h1
    have hcth : (nI th).toNatClampNeg = th := nI_clamp (by omega)
    obtain ⟨hd0, hd8⟩ := hI.2.2.2.1 th hth
    refine lv_if_ne (tgt := 10) hx hb dX7_finish_4 (by decide) (fun _ => ?_) (fun c9 => absurd c9 (by decide))
    refine lv_aload_n hx hb dX7_finish_10 rfl (lv_at hl 0 rfl) ?_
    refine hx_getL S X (ci := 7) 0 (mW_0 _ _ _) rfl hin7 2 (by decide) (by decide +kernel) rfl dX7_finish_11 ?_
    refine lv_iload_n hx hb dX7_finish_14 rfl (lv_at hl 1 rfl) ?_
    refine mx_ld S X 2 (N := 4) (mW_2 _ _ _) (j := th) (by omega) (by decide) (x := nI (dN σ th)) (hd0) dX7_finish_15 ?_
    refine lv_if_ne (tgt := 22) hx hb dX7_finish_16 (by decide) (fun c16 => ?_) (fun c16 => ?_)
    · skip
      have c16 := (not_congr (nI_eq (a := dN σ th) (b := 0) (by omega) (by omega))).mp c16
      refine lv_aload_n hx hb dX7_finish_22 rfl (lv_at hl 0 rfl) ?_
      refine hx_getL S X (ci := 7) 0 (mW_0 _ _ _) rfl hin7 2 (by decide) (by decide +kernel) rfl dX7_finish_23 ?_
      refine lv_iload_n hx hb dX7_finish_26 rfl (lv_at hl 1 rfl) ?_
      refine lv_dup2_11 hx hb dX7_finish_27 rfl rfl ?_
      refine mx_ld S X 2 (N := 4) (mW_2 _ _ _) (j := th) (by omega) (by decide) (x := nI (dN σ th)) (hd0) dX7_finish_28 ?_
      refine lv_iconst (v := 1) hx hb dX7_finish_29 (by decide) ?_
      refine lv_isub hx hb dX7_finish_30 ?_
      refine hx_ei (show _ = nI ((dN σ th) - (1)) from pk_sub (a := dN σ th) (b := 1) (by omega)) ?_
      refine mx_st S X 2 (N := 4) (mW_2 _ _ _) (j := th) (by omega) (by decide) (x := nI ((dN σ th) - (1))) dX7_finish_31 (mW_s2 _ _ _ _ _) (fun H locs X => ?_)
      refine lv_aload_n hx hb dX7_finish_32 rfl (lv_at hl 0 rfl) ?_
      refine hx_getL S X (ci := 7) 0 (mW_0 _ _ _) rfl hin7 2 (by decide) (by decide +kernel) rfl dX7_finish_33 ?_
      refine lv_iload_n hx hb dX7_finish_36 rfl (lv_at hl 1 rfl) ?_
      refine mx_ld S X 2 (N := 4) (mW_2 _ _ _) (j := th) (by omega) (by decide) (x := nI ((dN σ th) - (1))) (by rw [mS_eq]) dX7_finish_37 ?_
      exact hx_iret S X hr hlk (Nat.le_of_ble_eq_true rfl) (Nat.le_of_ble_eq_true rfl) (by simp [M_finish, wif_t, wif_f, h1', hcth, c16]) dX7_finish_38
    · skip
      have c16 := (nI_eq (a := dN σ th) (b := 0) (by omega) (by omega)).mp c16
      refine lv_ldc (v := -2000006) hx hb hown (hts (Cond.constant RX7 107 (-2000006)) (by decide +kernel)) dX7_finish_19 ?_
      exact hx_iret S X hr hlk (Nat.le_of_ble_eq_true rfl) (Nat.le_of_ble_eq_true rfl) (by simp [M_finish, wif_t, wif_f, h1', hcth, c16]) dX7_finish_21
  · skip
    refine hx_ei (hr1.2 h1) ?_
    refine lv_if_ne (tgt := 10) hx hb dX7_finish_4 (by decide) (fun c9 => absurd (by decide) c9) (fun _ => ?_)
    refine lv_ldc (v := -2000003) hx hb hown (hts (Cond.constant RX7 106 (-2000003)) (by decide +kernel)) dX7_finish_7 ?_
    exact hx_iret S X hr hlk (Nat.le_of_ble_eq_true rfl) (Nat.le_of_ble_eq_true rfl) (by simp [M_finish, wif_t, wif_f, h1]) dX7_finish_9

set_option maxRecDepth 100000 in
set_option maxHeartbeats 4000000 in
theorem c_X7_depth (l : Launch) (G : hG) (ad : Nat → Nat) (σ : Sg) (thread : Int32) (hI : Inv σ) : hMi l G yX7_depth wsX7_depth ({ frames := 2, cells := 0, slots := 0, locals := 42 } : Room) (mW G ad σ) [.ref (ad 0), .int (thread)] (fun r w => r = (M_depth σ thread).1 ∧ w = mW G ad (M_depth σ thread).2) := by
  refine hMi.of (cc := cX7_depth) (maxL := 2) (some .int) RX7 rfl (by decide +kernel) rfl (Nat.le_of_ble_eq_true rfl) ?_
  intro p e s m args below meth c S hr hlk X ls hl
  have hx := S.1
  have hb := S.2.1
  have hown := S.2.2.2.1
  have hts := S.2.2.2.2
  have hl : lv_has ls 2 [(0, .ref (ad 0)), (1, .int (thread))] := hl
  have hin7 : ∀ w ∈ wsX70, w ∈ wsX7_depth := by decide +kernel
  have hC6 : nC σ ≤ 6 := hI.1.2
  have hO24 : nO σ ≤ 24 := hI.2.1.2
  refine lv_iload_n hx hb dX7_depth_0 rfl (lv_at hl 1 rfl) ?_
  refine hx_Si (rest := []) S X (c_X7_isThread l G _ (thread)) gX7_depth_X7_isThread rfl (n := 1) (by decide +kernel) rfl ⟨(Nat.le_of_ble_eq_true rfl), (Nat.le_of_ble_eq_true rfl)⟩ hl.1 rfl (Nat.le_of_ble_eq_true rfl) dX7_depth_1 ⟨(Nat.le_of_ble_eq_true rfl), (Nat.le_of_ble_eq_true rfl)⟩ (fun r wd1 H locs hp X => ?_)
  obtain ⟨hr1, rfl⟩ := hp
  by_cases h1 : isT (thread)
  · skip
    refine hx_ei (hr1.1 h1) ?_
    have h1' := h1
    obtain ⟨th, hth, rfl⟩ := h1
    have hcth : (nI th).toNatClampNeg = th := nI_clamp (by omega)
    obtain ⟨hd0, hd8⟩ := hI.2.2.2.1 th hth
    refine lv_if_eq (tgt := 16) hx hb dX7_depth_4 (by decide) (fun c9 => absurd c9 (by decide)) (fun _ => ?_)
    refine lv_aload_n hx hb dX7_depth_7 rfl (lv_at hl 0 rfl) ?_
    refine hx_getL S X (ci := 7) 0 (mW_0 _ _ _) rfl hin7 2 (by decide) (by decide +kernel) rfl dX7_depth_8 ?_
    refine lv_iload_n hx hb dX7_depth_11 rfl (lv_at hl 1 rfl) ?_
    refine mx_ld S X 2 (N := 4) (mW_2 _ _ _) (j := th) (by omega) (by decide) (x := nI (dN σ th)) (hd0) dX7_depth_12 ?_
    refine lv_goto (tgt := 18) hx hb dX7_depth_13 (by decide) ?_
    exact hx_iret S X hr hlk (Nat.le_of_ble_eq_true rfl) (Nat.le_of_ble_eq_true rfl) (by simp [M_depth, wif_t, wif_f, h1', hcth]) dX7_depth_18
  · skip
    refine hx_ei (hr1.2 h1) ?_
    refine lv_if_eq (tgt := 16) hx hb dX7_depth_4 (by decide) (fun _ => ?_) (fun c9 => absurd (by decide) c9)
    refine lv_ldc (v := -2000003) hx hb hown (hts (Cond.constant RX7 106 (-2000003)) (by decide +kernel)) dX7_depth_16 ?_
    exact hx_iret S X hr hlk (Nat.le_of_ble_eq_true rfl) (Nat.le_of_ble_eq_true rfl) (by simp [M_depth, wif_t, wif_f, h1]) dX7_depth_18

set_option maxRecDepth 100000 in
set_option maxHeartbeats 4000000 in
theorem c_X7_frameClass (l : Launch) (G : hG) (ad : Nat → Nat) (σ : Sg) (thread index : Int32) (hI : Inv σ) : hMi l G yX7_frameClass wsX7_frameClass ({ frames := 2, cells := 0, slots := 0, locals := 42 } : Room) (mW G ad σ) [.ref (ad 0), .int (thread), .int (index)] (fun r w => r = (M_frameClass σ thread index).1 ∧ w = mW G ad (M_frameClass σ thread index).2) := by
  refine hMi.of (cc := cX7_frameClass) (maxL := 3) (some .int) RX7 rfl (by decide +kernel) rfl (Nat.le_of_ble_eq_true rfl) ?_
  intro p e s m args below meth c S hr hlk X ls hl
  have hx := S.1
  have hb := S.2.1
  have hown := S.2.2.2.1
  have hts := S.2.2.2.2
  have hl : lv_has ls 3 [(0, .ref (ad 0)), (1, .int (thread)), (2, .int (index))] := hl
  have hin7 : ∀ w ∈ wsX70, w ∈ wsX7_frameClass := by decide +kernel
  have hC6 : nC σ ≤ 6 := hI.1.2
  have hO24 : nO σ ≤ 24 := hI.2.1.2
  refine lv_iload_n hx hb dX7_frameClass_0 rfl (lv_at hl 1 rfl) ?_
  refine hx_Si (rest := []) S X (c_X7_isThread l G _ (thread)) gX7_frameClass_X7_isThread rfl (n := 1) (by decide +kernel) rfl ⟨(Nat.le_of_ble_eq_true rfl), (Nat.le_of_ble_eq_true rfl)⟩ hl.1 rfl (Nat.le_of_ble_eq_true rfl) dX7_frameClass_1 ⟨(Nat.le_of_ble_eq_true rfl), (Nat.le_of_ble_eq_true rfl)⟩ (fun r wd1 H locs hp X => ?_)
  obtain ⟨hr1, rfl⟩ := hp
  by_cases h1 : isT (thread)
  · skip
    refine hx_ei (hr1.1 h1) ?_
    have h1' := h1
    obtain ⟨th, hth, rfl⟩ := h1
    have hcth : (nI th).toNatClampNeg = th := nI_clamp (by omega)
    obtain ⟨hd0, hd8⟩ := hI.2.2.2.1 th hth
    refine lv_if_ne (tgt := 10) hx hb dX7_frameClass_4 (by decide) (fun _ => ?_) (fun c9 => absurd c9 (by decide))
    refine lv_iload_n hx hb dX7_frameClass_10 rfl (lv_at hl 2 rfl) ?_
    refine lv_iconst (v := 0) hx hb dX7_frameClass_11 (by decide) ?_
    refine lv_aload_n hx hb dX7_frameClass_12 rfl (lv_at hl 0 rfl) ?_
    refine hx_getL S X (ci := 7) 0 (mW_0 _ _ _) rfl hin7 2 (by decide) (by decide +kernel) rfl dX7_frameClass_13 ?_
    refine lv_iload_n hx hb dX7_frameClass_16 rfl (lv_at hl 1 rfl) ?_
    refine mx_ld S X 2 (N := 4) (mW_2 _ _ _) (j := th) (by omega) (by decide) (x := nI (dN σ th)) (hd0) dX7_frameClass_17 ?_
    refine lv_iconst (v := 1) hx hb dX7_frameClass_18 (by decide) ?_
    refine lv_isub hx hb dX7_frameClass_19 ?_
    refine hx_ei (show _ = nI (dN σ th) - 1 from rfl) ?_
    refine hx_Si (rest := []) S X (c_X7_in l G _ (index) ((0 : Int32)) (nI (dN σ th) - 1)) gX7_frameClass_X7_in rfl (n := 3) (by decide +kernel) rfl ⟨(Nat.le_of_ble_eq_true rfl), (Nat.le_of_ble_eq_true rfl)⟩ hl.1 rfl (Nat.le_of_ble_eq_true rfl) dX7_frameClass_20 ⟨(Nat.le_of_ble_eq_true rfl), (Nat.le_of_ble_eq_true rfl)⟩ (fun r wd1 H locs hp X => ?_)
    obtain ⟨hr20, rfl⟩ := hp
    by_cases h20 : 0 ≤ index ∧ index ≤ nI (dN σ th) - 1
    · skip
      refine hx_ei (hr20.1 h20) ?_
      have h20a := (in_m1 (by omega) index).mp h20
      obtain ⟨k, hk, rfl⟩ := (in_m1 (by omega) index).mp h20
      have hck : (nI k).toNatClampNeg = k := nI_clamp (by omega)
      refine lv_if_eq (tgt := 40) hx hb dX7_frameClass_23 (by decide) (fun c9 => absurd c9 (by decide)) (fun _ => ?_)
      refine lv_aload_n hx hb dX7_frameClass_26 rfl (lv_at hl 0 rfl) ?_
      refine hx_getL S X (ci := 7) 0 (mW_0 _ _ _) rfl hin7 3 (by decide) (by decide +kernel) rfl dX7_frameClass_27 ?_
      refine lv_bipush (v := 8) hx hb dX7_frameClass_30 (by decide) ?_
      refine lv_iload_n hx hb dX7_frameClass_32 rfl (lv_at hl 1 rfl) ?_
      refine lv_imul hx hb dX7_frameClass_33 ?_
      refine hx_ei (show _ = nI ((8) * (th)) from pk_mul (8) (th)) ?_
      refine lv_iload_n hx hb dX7_frameClass_34 rfl (lv_at hl 2 rfl) ?_
      refine lv_iadd hx hb dX7_frameClass_35 ?_
      refine hx_ei (show _ = nI ((8) * (th) + k) from nI_add ((8) * (th)) (k)) ?_
      refine mx_ld S X 3 (N := 32) (mW_3 _ _ _) (j := (8) * (th) + k) (by omega) (by decide) (x := σ 3 ((8) * (th) + k)) (rfl) dX7_frameClass_36 ?_
      refine lv_goto (tgt := 42) hx hb dX7_frameClass_37 (by decide) ?_
      exact hx_iret S X hr hlk (Nat.le_of_ble_eq_true rfl) (Nat.le_of_ble_eq_true rfl) (by simp [M_frameClass, wif_t, wif_f, h1', hcth, h20a, hck]) dX7_frameClass_42
    · skip
      refine hx_ei (hr20.2 h20) ?_
      have h20a : ¬ ∃ j, j < dN σ th ∧ index = nI j := fun h => h20 ((in_m1 (by omega) index).mpr h)
      refine lv_if_eq (tgt := 40) hx hb dX7_frameClass_23 (by decide) (fun _ => ?_) (fun c9 => absurd (by decide) c9)
      refine lv_ldc (v := -2000006) hx hb hown (hts (Cond.constant RX7 107 (-2000006)) (by decide +kernel)) dX7_frameClass_40 ?_
      exact hx_iret S X hr hlk (Nat.le_of_ble_eq_true rfl) (Nat.le_of_ble_eq_true rfl) (by simp [M_frameClass, wif_t, wif_f, h1', hcth, h20, h20a]) dX7_frameClass_42
  · skip
    refine hx_ei (hr1.2 h1) ?_
    refine lv_if_ne (tgt := 10) hx hb dX7_frameClass_4 (by decide) (fun c9 => absurd (by decide) c9) (fun _ => ?_)
    refine lv_ldc (v := -2000003) hx hb hown (hts (Cond.constant RX7 106 (-2000003)) (by decide +kernel)) dX7_frameClass_7 ?_
    exact hx_iret S X hr hlk (Nat.le_of_ble_eq_true rfl) (Nat.le_of_ble_eq_true rfl) (by simp [M_frameClass, wif_t, wif_f, h1]) dX7_frameClass_9

set_option maxRecDepth 100000 in
set_option maxHeartbeats 4000000 in
theorem c_X7_frameVersion (l : Launch) (G : hG) (ad : Nat → Nat) (σ : Sg) (thread index : Int32) (hI : Inv σ) : hMi l G yX7_frameVersion wsX7_frameVersion ({ frames := 2, cells := 0, slots := 0, locals := 42 } : Room) (mW G ad σ) [.ref (ad 0), .int (thread), .int (index)] (fun r w => r = (M_frameVersion σ thread index).1 ∧ w = mW G ad (M_frameVersion σ thread index).2) := by
  refine hMi.of (cc := cX7_frameVersion) (maxL := 3) (some .int) RX7 rfl (by decide +kernel) rfl (Nat.le_of_ble_eq_true rfl) ?_
  intro p e s m args below meth c S hr hlk X ls hl
  have hx := S.1
  have hb := S.2.1
  have hown := S.2.2.2.1
  have hts := S.2.2.2.2
  have hl : lv_has ls 3 [(0, .ref (ad 0)), (1, .int (thread)), (2, .int (index))] := hl
  have hin7 : ∀ w ∈ wsX70, w ∈ wsX7_frameVersion := by decide +kernel
  have hC6 : nC σ ≤ 6 := hI.1.2
  have hO24 : nO σ ≤ 24 := hI.2.1.2
  refine lv_iload_n hx hb dX7_frameVersion_0 rfl (lv_at hl 1 rfl) ?_
  refine hx_Si (rest := []) S X (c_X7_isThread l G _ (thread)) gX7_frameVersion_X7_isThread rfl (n := 1) (by decide +kernel) rfl ⟨(Nat.le_of_ble_eq_true rfl), (Nat.le_of_ble_eq_true rfl)⟩ hl.1 rfl (Nat.le_of_ble_eq_true rfl) dX7_frameVersion_1 ⟨(Nat.le_of_ble_eq_true rfl), (Nat.le_of_ble_eq_true rfl)⟩ (fun r wd1 H locs hp X => ?_)
  obtain ⟨hr1, rfl⟩ := hp
  by_cases h1 : isT (thread)
  · skip
    refine hx_ei (hr1.1 h1) ?_
    have h1' := h1
    obtain ⟨th, hth, rfl⟩ := h1
    have hcth : (nI th).toNatClampNeg = th := nI_clamp (by omega)
    obtain ⟨hd0, hd8⟩ := hI.2.2.2.1 th hth
    refine lv_if_ne (tgt := 10) hx hb dX7_frameVersion_4 (by decide) (fun _ => ?_) (fun c9 => absurd c9 (by decide))
    refine lv_iload_n hx hb dX7_frameVersion_10 rfl (lv_at hl 2 rfl) ?_
    refine lv_iconst (v := 0) hx hb dX7_frameVersion_11 (by decide) ?_
    refine lv_aload_n hx hb dX7_frameVersion_12 rfl (lv_at hl 0 rfl) ?_
    refine hx_getL S X (ci := 7) 0 (mW_0 _ _ _) rfl hin7 2 (by decide) (by decide +kernel) rfl dX7_frameVersion_13 ?_
    refine lv_iload_n hx hb dX7_frameVersion_16 rfl (lv_at hl 1 rfl) ?_
    refine mx_ld S X 2 (N := 4) (mW_2 _ _ _) (j := th) (by omega) (by decide) (x := nI (dN σ th)) (hd0) dX7_frameVersion_17 ?_
    refine lv_iconst (v := 1) hx hb dX7_frameVersion_18 (by decide) ?_
    refine lv_isub hx hb dX7_frameVersion_19 ?_
    refine hx_ei (show _ = nI (dN σ th) - 1 from rfl) ?_
    refine hx_Si (rest := []) S X (c_X7_in l G _ (index) ((0 : Int32)) (nI (dN σ th) - 1)) gX7_frameVersion_X7_in rfl (n := 3) (by decide +kernel) rfl ⟨(Nat.le_of_ble_eq_true rfl), (Nat.le_of_ble_eq_true rfl)⟩ hl.1 rfl (Nat.le_of_ble_eq_true rfl) dX7_frameVersion_20 ⟨(Nat.le_of_ble_eq_true rfl), (Nat.le_of_ble_eq_true rfl)⟩ (fun r wd1 H locs hp X => ?_)
    obtain ⟨hr20, rfl⟩ := hp
    by_cases h20 : 0 ≤ index ∧ index ≤ nI (dN σ th) - 1
    · skip
      refine hx_ei (hr20.1 h20) ?_
      have h20a := (in_m1 (by omega) index).mp h20
      obtain ⟨k, hk, rfl⟩ := (in_m1 (by omega) index).mp h20
      have hck : (nI k).toNatClampNeg = k := nI_clamp (by omega)
      refine lv_if_eq (tgt := 40) hx hb dX7_frameVersion_23 (by decide) (fun c9 => absurd c9 (by decide)) (fun _ => ?_)
      refine lv_aload_n hx hb dX7_frameVersion_26 rfl (lv_at hl 0 rfl) ?_
      refine hx_getL S X (ci := 7) 0 (mW_0 _ _ _) rfl hin7 4 (by decide) (by decide +kernel) rfl dX7_frameVersion_27 ?_
      refine lv_bipush (v := 8) hx hb dX7_frameVersion_30 (by decide) ?_
      refine lv_iload_n hx hb dX7_frameVersion_32 rfl (lv_at hl 1 rfl) ?_
      refine lv_imul hx hb dX7_frameVersion_33 ?_
      refine hx_ei (show _ = nI ((8) * (th)) from pk_mul (8) (th)) ?_
      refine lv_iload_n hx hb dX7_frameVersion_34 rfl (lv_at hl 2 rfl) ?_
      refine lv_iadd hx hb dX7_frameVersion_35 ?_
      refine hx_ei (show _ = nI ((8) * (th) + k) from nI_add ((8) * (th)) (k)) ?_
      refine mx_ld S X 4 (N := 32) (mW_4 _ _ _) (j := (8) * (th) + k) (by omega) (by decide) (x := σ 4 ((8) * (th) + k)) (rfl) dX7_frameVersion_36 ?_
      refine lv_goto (tgt := 42) hx hb dX7_frameVersion_37 (by decide) ?_
      exact hx_iret S X hr hlk (Nat.le_of_ble_eq_true rfl) (Nat.le_of_ble_eq_true rfl) (by simp [M_frameVersion, wif_t, wif_f, h1', hcth, h20a, hck]) dX7_frameVersion_42
    · skip
      refine hx_ei (hr20.2 h20) ?_
      have h20a : ¬ ∃ j, j < dN σ th ∧ index = nI j := fun h => h20 ((in_m1 (by omega) index).mpr h)
      refine lv_if_eq (tgt := 40) hx hb dX7_frameVersion_23 (by decide) (fun _ => ?_) (fun c9 => absurd (by decide) c9)
      refine lv_ldc (v := -2000006) hx hb hown (hts (Cond.constant RX7 107 (-2000006)) (by decide +kernel)) dX7_frameVersion_40 ?_
      exact hx_iret S X hr hlk (Nat.le_of_ble_eq_true rfl) (Nat.le_of_ble_eq_true rfl) (by simp [M_frameVersion, wif_t, wif_f, h1', hcth, h20, h20a]) dX7_frameVersion_42
  · skip
    refine hx_ei (hr1.2 h1) ?_
    refine lv_if_ne (tgt := 10) hx hb dX7_frameVersion_4 (by decide) (fun c9 => absurd (by decide) c9) (fun _ => ?_)
    refine lv_ldc (v := -2000003) hx hb hown (hts (Cond.constant RX7 106 (-2000003)) (by decide +kernel)) dX7_frameVersion_7 ?_
    exact hx_iret S X hr hlk (Nat.le_of_ble_eq_true rfl) (Nat.le_of_ble_eq_true rfl) (by simp [M_frameVersion, wif_t, wif_f, h1]) dX7_frameVersion_9

set_option maxRecDepth 100000 in
set_option maxHeartbeats 4000000 in
theorem c_X7_isThere (l : Launch) (G : hG) (ad : Nat → Nat) (σ : Sg) (j : Nat) (hI : Inv σ) (hj : j < 32) : hMi l G yX7_isThere wsX7_isThere ({ frames := 0, cells := 0, slots := 0, locals := 0 } : Room) (mW G ad σ) [.ref (ad 0), .int (nI (j))] (fun r w => isB r (liv σ j) ∧ w = (mW G ad σ)) := by
  refine hMi.of (cc := cX7_isThere) (maxL := 2) (some .boolean) RX7 rfl (by decide +kernel) rfl (Nat.le_of_ble_eq_true rfl) ?_
  intro p e s m args below meth c S hr hlk X ls hl
  have hx := S.1
  have hb := S.2.1
  have hown := S.2.2.2.1
  have hts := S.2.2.2.2
  have hl : lv_has ls 2 [(0, .ref (ad 0)), (1, .int (nI (j)))] := hl
  have hin7 : ∀ w ∈ wsX70, w ∈ wsX7_isThere := by decide +kernel
  obtain ⟨hd0, hd8⟩ := hI.2.2.2.1 (j / 8) (by omega)
  refine lv_iload_n hx hb dX7_isThere_0 rfl (lv_at hl 1 rfl) ?_
  refine lv_bipush (v := 8) hx hb dX7_isThere_1 (by decide) ?_
  refine lv_irem hx hb dX7_isThere_3 (by decide) ?_
  refine hx_ei (show _ = nI ((j) % (8)) from pk_rem (a := j) (d := 8) (by omega) (by omega) (by omega)) ?_
  refine lv_aload_n hx hb dX7_isThere_4 rfl (lv_at hl 0 rfl) ?_
  refine hx_getL S X (ci := 7) 0 (mW_0 _ _ _) rfl hin7 2 (by decide) (by decide +kernel) rfl dX7_isThere_5 ?_
  refine lv_iload_n hx hb dX7_isThere_8 rfl (lv_at hl 1 rfl) ?_
  refine lv_bipush (v := 8) hx hb dX7_isThere_9 (by decide) ?_
  refine lv_idiv hx hb dX7_isThere_11 (by decide) ?_
  refine hx_ei (show _ = nI ((j) / (8)) from pk_div (a := j) (d := 8) (by omega) (by omega) (by omega)) ?_
  refine mx_ld S X 2 (N := 4) (mW_2 _ _ _) (j := (j) / (8)) (by omega) (by decide) (x := nI (dN σ (j / 8))) (hd0) dX7_isThere_12 ?_
  refine lv_icmp_ge (tgt := 20) hx hb dX7_isThere_13 (by decide) (fun c13 => ?_) (fun c13 => ?_)
  · skip
    have c13 := (nI_leI (a := dN σ (j / 8)) (b := (j) % (8)) (by omega) (by omega)).mp c13
    refine lv_iconst (v := 0) hx hb dX7_isThere_20 (by decide) ?_
    exact hx_zret S X hr hlk (Nat.le_of_ble_eq_true rfl) (Nat.le_of_ble_eq_true rfl) (by decide) ⟨isB_f (by unfold liv; omega) rfl, rfl⟩ dX7_isThere_21
  · skip
    have c13 := (not_congr (nI_leI (a := dN σ (j / 8)) (b := (j) % (8)) (by omega) (by omega))).mp c13
    refine lv_iconst (v := 1) hx hb dX7_isThere_16 (by decide) ?_
    refine lv_goto (tgt := 21) hx hb dX7_isThere_17 (by decide) ?_
    exact hx_zret S X hr hlk (Nat.le_of_ble_eq_true rfl) (Nat.le_of_ble_eq_true rfl) (by decide) ⟨isB_t (by unfold liv; omega) rfl, rfl⟩ dX7_isThere_21

set_option maxRecDepth 100000 in
set_option maxHeartbeats 4000000 in
theorem c_X7_runs (l : Launch) (G : hG) (ad : Nat → Nat) (σ : Sg) (type version : Int32) (hI : Inv σ) : hMi l G yX7_runs wsX7_runs ({ frames := 1, cells := 0, slots := 0, locals := 21 } : Room) (mW G ad σ) [.ref (ad 0), .int (type), .int (version)] (fun r w => isB r (∃ j, j < 32 ∧ runP σ type version j) ∧ w = mW G ad σ) := by
  refine hMi.of (cc := cX7_runs) (maxL := 5) (some .boolean) RX7 rfl (by decide +kernel) rfl (Nat.le_of_ble_eq_true rfl) ?_
  intro p e s m args below meth c S hr hlk X ls hl
  have hx := S.1
  have hb := S.2.1
  have hown := S.2.2.2.1
  have hts := S.2.2.2.2
  have hl : lv_has ls 5 [(0, .ref (ad 0)), (1, .int (type)), (2, .int (version))] := hl
  have hin7 : ∀ w ∈ wsX70, w ∈ wsX7_runs := by decide +kernel
  have hC6 : nC σ ≤ 6 := hI.1.2
  have hO24 : nO σ ≤ 24 := hI.2.1.2
  refine lv_iconst (v := 0) hx hb dX7_runs_0 (by decide) ?_
  refine lv_istore_n (lv' := [(3, .int ((0 : Int32))), (0, .ref (ad 0)), (1, .int (type)), (2, .int (version))]) hx hb dX7_runs_1 rfl hl (by decide) rfl (fun ls hl => ?_)
  refine lv_iconst (v := 0) hx hb dX7_runs_2 (by decide) ?_
  refine lv_istore (lv' := [(4, .int ((0 : Int32))), (3, .int ((0 : Int32))), (0, .ref (ad 0)), (1, .int (type)), (2, .int (version))]) hx hb dX7_runs_3 hl (by decide) rfl (fun ls hl => ?_)
  have loop : ∀ (n i : Nat) (y : Int32), i + n = 32 → isB y (∃ j, j < i ∧ runP σ type version j) → ∀ (H : Heap) (locs : List Loc) (ls : Array Slot), hH G (va_A (mW G ad σ) s.heap.size) s.heap s (mW G ad σ) H locs → lv_has ls 5 [(0, .ref (ad 0)), (1, .int (type)), (2, .int (version)), (3, .int (y)), (4, .int (nI (i)))] → W p l e ({ frames := 1, cells := 0, slots := 0, locals := 21 } : Room) s m args below meth c H locs 0 0 (MQ below (va_Qi (fun r w => isB r (∃ j, j < 32 ∧ runP σ type version j) ∧ w = mW G ad σ) (hB G (va_A (mW G ad σ) s.heap.size)) (va_A (mW G ad σ) s.heap.size)) args s 0 0 (va_A (mW G ad σ) s.heap.size)) (F0 m 5 ls []) := by
    intro n
    induction n with
    | zero =>
      intro i y hi hv H locs ls X hl
      have hi32 : i = 32 := by omega
      refine lv_iload hx hb dX7_runs_5 (lv_at hl 4 rfl) ?_
      refine lv_bipush (v := 32) hx hb dX7_runs_7 (by decide) ?_
      refine lv_icmp_ge (tgt := 59) hx hb dX7_runs_9 (by decide) (fun _ => ?_) (fun c9 => absurd (nI_le (a := 32) (b := i) (by omega) (by omega)) c9)
      refine lv_iload_n hx hb dX7_runs_59 rfl (lv_at hl 3 rfl) ?_
      exact hx_zret S X hr hlk (Nat.le_of_ble_eq_true rfl) (Nat.le_of_ble_eq_true rfl) (isB_nar hv) ⟨hi32 ▸ hv, rfl⟩ dX7_runs_60
    | succ n ih =>
      intro i y hi hv H locs ls X hl
      have hi32 : i < 32 := by omega
      refine lv_iload hx hb dX7_runs_5 (lv_at hl 4 rfl) ?_
      refine lv_bipush (v := 32) hx hb dX7_runs_7 (by decide) ?_
      refine lv_icmp_ge (tgt := 59) hx hb dX7_runs_9 (by decide) (fun c9 => absurd c9 (nI_ge (a := i) (b := 32) (by omega) (by omega))) (fun _ => ?_)
      refine lv_iload_n hx hb dX7_runs_12 rfl (lv_at hl 3 rfl) ?_
      refine lv_if_ne (tgt := 47) hx hb dX7_runs_13 (by decide) (fun c13 => ?_) (fun c13 => ?_)
      · skip
        refine lv_iconst (v := 1) hx hb dX7_runs_47 (by decide) ?_
        refine lv_goto (tgt := 52) hx hb dX7_runs_48 (by decide) ?_
        refine lv_istore_n (lv' := [(3, .int ((1 : Int32))), (0, .ref (ad 0)), (1, .int (type)), (2, .int (version)), (4, .int (nI (i)))]) hx hb dX7_runs_52 rfl hl (by decide) rfl (fun ls hl => ?_)
        refine lv_iinc (v := nI (i + 1)) (lv' := [(4, .int (nI (i + 1))), (3, .int ((1 : Int32))), (0, .ref (ad 0)), (1, .int (type)), (2, .int (version))]) hx hb dX7_runs_53 hl (k := 4) rfl (nI_add (i) 1) (by decide) rfl (fun ls hl => ?_)
        refine lv_goto (tgt := 5) hx hb dX7_runs_56 (by decide) ?_
        exact ih (i + 1) (1 : Int32) (by omega) (ex_stop hv c13) _ _ _ X (lv_sub hl [2, 3, 4, 1, 0] rfl)
      · skip
        refine lv_aload_n hx hb dX7_runs_16 rfl (lv_at hl 0 rfl) ?_
        refine lv_iload hx hb dX7_runs_17 (lv_at hl 4 rfl) ?_
        refine hx_Vi (rest := []) S X (c_X7_isThere l G ad σ (i) hI (by omega)) gX7_runs_X7_isThere rfl (n := 1) (by decide +kernel) rfl ⟨(Nat.le_of_ble_eq_true rfl), (Nat.le_of_ble_eq_true rfl)⟩ (hx_recvL (q0 := 0) (ci := 7) X rfl (mW_0 _ _ _)) hl.1 rfl (Nat.le_of_ble_eq_true rfl) dX7_runs_19 ⟨(Nat.le_of_ble_eq_true rfl), (Nat.le_of_ble_eq_true rfl)⟩ (fun r wd1 H locs hp X => ?_)
        obtain ⟨hr19, rfl⟩ := hp
        by_cases h19 : liv σ (i)
        · skip
          refine hx_ei (hr19.1 h19) ?_
          refine lv_if_eq (tgt := 51) hx hb dX7_runs_22 (by decide) (fun c9 => absurd c9 (by decide)) (fun _ => ?_)
          refine lv_aload_n hx hb dX7_runs_25 rfl (lv_at hl 0 rfl) ?_
          refine hx_getL S X (ci := 7) 0 (mW_0 _ _ _) rfl hin7 3 (by decide) (by decide +kernel) rfl dX7_runs_26 ?_
          refine lv_iload hx hb dX7_runs_29 (lv_at hl 4 rfl) ?_
          refine mx_ld S X 3 (N := 32) (mW_3 _ _ _) (j := i) (by omega) (by decide) (x := σ 3 (i)) (rfl) dX7_runs_31 ?_
          refine lv_iload_n hx hb dX7_runs_32 rfl (lv_at hl 1 rfl) ?_
          refine lv_icmp_ne (tgt := 51) hx hb dX7_runs_33 (by decide) (fun c33 => ?_) (fun c33 => ?_)
          · skip
            refine lv_iconst (v := 0) hx hb dX7_runs_51 (by decide) ?_
            refine lv_istore_n (lv' := [(3, .int ((0 : Int32))), (0, .ref (ad 0)), (1, .int (type)), (2, .int (version)), (4, .int (nI (i)))]) hx hb dX7_runs_52 rfl hl (by decide) rfl (fun ls hl => ?_)
            refine lv_iinc (v := nI (i + 1)) (lv' := [(4, .int (nI (i + 1))), (3, .int ((0 : Int32))), (0, .ref (ad 0)), (1, .int (type)), (2, .int (version))]) hx hb dX7_runs_53 hl (k := 4) rfl (nI_add (i) 1) (by decide) rfl (fun ls hl => ?_)
            refine lv_goto (tgt := 5) hx hb dX7_runs_56 (by decide) ?_
            exact ih (i + 1) (0 : Int32) (by omega) (ex_no hv c13 (fun q => c33 q.2.1)) _ _ _ X (lv_sub hl [2, 3, 4, 1, 0] rfl)
          · skip
            refine lv_aload_n hx hb dX7_runs_36 rfl (lv_at hl 0 rfl) ?_
            refine hx_getL S X (ci := 7) 0 (mW_0 _ _ _) rfl hin7 4 (by decide) (by decide +kernel) rfl dX7_runs_37 ?_
            refine lv_iload hx hb dX7_runs_40 (lv_at hl 4 rfl) ?_
            refine mx_ld S X 4 (N := 32) (mW_4 _ _ _) (j := i) (by omega) (by decide) (x := σ 4 (i)) (rfl) dX7_runs_42 ?_
            refine lv_iload_n hx hb dX7_runs_43 rfl (lv_at hl 2 rfl) ?_
            refine lv_icmp_ne (tgt := 51) hx hb dX7_runs_44 (by decide) (fun c44 => ?_) (fun c44 => ?_)
            · skip
              refine lv_iconst (v := 0) hx hb dX7_runs_51 (by decide) ?_
              refine lv_istore_n (lv' := [(3, .int ((0 : Int32))), (0, .ref (ad 0)), (1, .int (type)), (2, .int (version)), (4, .int (nI (i)))]) hx hb dX7_runs_52 rfl hl (by decide) rfl (fun ls hl => ?_)
              refine lv_iinc (v := nI (i + 1)) (lv' := [(4, .int (nI (i + 1))), (3, .int ((0 : Int32))), (0, .ref (ad 0)), (1, .int (type)), (2, .int (version))]) hx hb dX7_runs_53 hl (k := 4) rfl (nI_add (i) 1) (by decide) rfl (fun ls hl => ?_)
              refine lv_goto (tgt := 5) hx hb dX7_runs_56 (by decide) ?_
              exact ih (i + 1) (0 : Int32) (by omega) (ex_no hv c13 (fun q => c44 q.2.2)) _ _ _ X (lv_sub hl [2, 3, 4, 1, 0] rfl)
            · skip
              refine lv_iconst (v := 1) hx hb dX7_runs_47 (by decide) ?_
              refine lv_goto (tgt := 52) hx hb dX7_runs_48 (by decide) ?_
              refine lv_istore_n (lv' := [(3, .int ((1 : Int32))), (0, .ref (ad 0)), (1, .int (type)), (2, .int (version)), (4, .int (nI (i)))]) hx hb dX7_runs_52 rfl hl (by decide) rfl (fun ls hl => ?_)
              refine lv_iinc (v := nI (i + 1)) (lv' := [(4, .int (nI (i + 1))), (3, .int ((1 : Int32))), (0, .ref (ad 0)), (1, .int (type)), (2, .int (version))]) hx hb dX7_runs_53 hl (k := 4) rfl (nI_add (i) 1) (by decide) rfl (fun ls hl => ?_)
              refine lv_goto (tgt := 5) hx hb dX7_runs_56 (by decide) ?_
              exact ih (i + 1) (1 : Int32) (by omega) (ex_yes ⟨h19, c33, c44⟩) _ _ _ X (lv_sub hl [2, 3, 4, 1, 0] rfl)
        · skip
          refine hx_ei (hr19.2 h19) ?_
          refine lv_if_eq (tgt := 51) hx hb dX7_runs_22 (by decide) (fun _ => ?_) (fun c9 => absurd (by decide) c9)
          refine lv_iconst (v := 0) hx hb dX7_runs_51 (by decide) ?_
          refine lv_istore_n (lv' := [(3, .int ((0 : Int32))), (0, .ref (ad 0)), (1, .int (type)), (2, .int (version)), (4, .int (nI (i)))]) hx hb dX7_runs_52 rfl hl (by decide) rfl (fun ls hl => ?_)
          refine lv_iinc (v := nI (i + 1)) (lv' := [(4, .int (nI (i + 1))), (3, .int ((0 : Int32))), (0, .ref (ad 0)), (1, .int (type)), (2, .int (version))]) hx hb dX7_runs_53 hl (k := 4) rfl (nI_add (i) 1) (by decide) rfl (fun ls hl => ?_)
          refine lv_goto (tgt := 5) hx hb dX7_runs_56 (by decide) ?_
          exact ih (i + 1) (0 : Int32) (by omega) (ex_no hv c13 (fun q => h19 q.1)) _ _ _ X (lv_sub hl [2, 3, 4, 1, 0] rfl)
  exact loop 32 0 0 (by omega) ex_0 _ _ _ X (lv_sub hl [2, 3, 4, 1, 0] rfl)

set_option maxRecDepth 100000 in
set_option maxHeartbeats 4000000 in
theorem c_X7_isHeldBelow (l : Launch) (G : hG) (ad : Nat → Nat) (σ : Sg) (o v : Int32) (hI : Inv σ) : hMi l G yX7_isHeldBelow wsX7_isHeldBelow ({ frames := 1, cells := 0, slots := 0, locals := 21 } : Room) (mW G ad σ) [.ref (ad 0), .int (o), .int (v)] (fun r w => isB r (∃ j, j < 32 ∧ helP σ o v j) ∧ w = mW G ad σ) := by
  refine hMi.of (cc := cX7_isHeldBelow) (maxL := 5) (some .boolean) RX7 rfl (by decide +kernel) rfl (Nat.le_of_ble_eq_true rfl) ?_
  intro p e s m args below meth c S hr hlk X ls hl
  have hx := S.1
  have hb := S.2.1
  have hown := S.2.2.2.1
  have hts := S.2.2.2.2
  have hl : lv_has ls 5 [(0, .ref (ad 0)), (1, .int (o)), (2, .int (v))] := hl
  have hin7 : ∀ w ∈ wsX70, w ∈ wsX7_isHeldBelow := by decide +kernel
  have hC6 : nC σ ≤ 6 := hI.1.2
  have hO24 : nO σ ≤ 24 := hI.2.1.2
  refine lv_iconst (v := 0) hx hb dX7_isHeldBelow_0 (by decide) ?_
  refine lv_istore_n (lv' := [(3, .int ((0 : Int32))), (0, .ref (ad 0)), (1, .int (o)), (2, .int (v))]) hx hb dX7_isHeldBelow_1 rfl hl (by decide) rfl (fun ls hl => ?_)
  refine lv_iconst (v := 0) hx hb dX7_isHeldBelow_2 (by decide) ?_
  refine lv_istore (lv' := [(4, .int ((0 : Int32))), (3, .int ((0 : Int32))), (0, .ref (ad 0)), (1, .int (o)), (2, .int (v))]) hx hb dX7_isHeldBelow_3 hl (by decide) rfl (fun ls hl => ?_)
  have loop : ∀ (n i : Nat) (y : Int32), i + n = 32 → isB y (∃ j, j < i ∧ helP σ o v j) → ∀ (H : Heap) (locs : List Loc) (ls : Array Slot), hH G (va_A (mW G ad σ) s.heap.size) s.heap s (mW G ad σ) H locs → lv_has ls 5 [(0, .ref (ad 0)), (1, .int (o)), (2, .int (v)), (3, .int (y)), (4, .int (nI (i)))] → W p l e ({ frames := 1, cells := 0, slots := 0, locals := 21 } : Room) s m args below meth c H locs 0 0 (MQ below (va_Qi (fun r w => isB r (∃ j, j < 32 ∧ helP σ o v j) ∧ w = mW G ad σ) (hB G (va_A (mW G ad σ) s.heap.size)) (va_A (mW G ad σ) s.heap.size)) args s 0 0 (va_A (mW G ad σ) s.heap.size)) (F0 m 5 ls []) := by
    intro n
    induction n with
    | zero =>
      intro i y hi hv H locs ls X hl
      have hi32 : i = 32 := by omega
      refine lv_iload hx hb dX7_isHeldBelow_5 (lv_at hl 4 rfl) ?_
      refine lv_bipush (v := 32) hx hb dX7_isHeldBelow_7 (by decide) ?_
      refine lv_icmp_ge (tgt := 63) hx hb dX7_isHeldBelow_9 (by decide) (fun _ => ?_) (fun c9 => absurd (nI_le (a := 32) (b := i) (by omega) (by omega)) c9)
      refine lv_iload_n hx hb dX7_isHeldBelow_63 rfl (lv_at hl 3 rfl) ?_
      exact hx_zret S X hr hlk (Nat.le_of_ble_eq_true rfl) (Nat.le_of_ble_eq_true rfl) (isB_nar hv) ⟨hi32 ▸ hv, rfl⟩ dX7_isHeldBelow_64
    | succ n ih =>
      intro i y hi hv H locs ls X hl
      have hi32 : i < 32 := by omega
      refine lv_iload hx hb dX7_isHeldBelow_5 (lv_at hl 4 rfl) ?_
      refine lv_bipush (v := 32) hx hb dX7_isHeldBelow_7 (by decide) ?_
      refine lv_icmp_ge (tgt := 63) hx hb dX7_isHeldBelow_9 (by decide) (fun c9 => absurd c9 (nI_ge (a := i) (b := 32) (by omega) (by omega))) (fun _ => ?_)
      refine lv_iload_n hx hb dX7_isHeldBelow_12 rfl (lv_at hl 3 rfl) ?_
      refine lv_if_ne (tgt := 51) hx hb dX7_isHeldBelow_13 (by decide) (fun c13 => ?_) (fun c13 => ?_)
      · skip
        refine lv_iconst (v := 1) hx hb dX7_isHeldBelow_51 (by decide) ?_
        refine lv_goto (tgt := 56) hx hb dX7_isHeldBelow_52 (by decide) ?_
        refine lv_istore_n (lv' := [(3, .int ((1 : Int32))), (0, .ref (ad 0)), (1, .int (o)), (2, .int (v)), (4, .int (nI (i)))]) hx hb dX7_isHeldBelow_56 rfl hl (by decide) rfl (fun ls hl => ?_)
        refine lv_iinc (v := nI (i + 1)) (lv' := [(4, .int (nI (i + 1))), (3, .int ((1 : Int32))), (0, .ref (ad 0)), (1, .int (o)), (2, .int (v))]) hx hb dX7_isHeldBelow_57 hl (k := 4) rfl (nI_add (i) 1) (by decide) rfl (fun ls hl => ?_)
        refine lv_goto (tgt := 5) hx hb dX7_isHeldBelow_60 (by decide) ?_
        exact ih (i + 1) (1 : Int32) (by omega) (ex_stop hv c13) _ _ _ X (lv_sub hl [2, 3, 4, 1, 0] rfl)
      · skip
        refine lv_aload_n hx hb dX7_isHeldBelow_16 rfl (lv_at hl 0 rfl) ?_
        refine lv_iload hx hb dX7_isHeldBelow_17 (lv_at hl 4 rfl) ?_
        refine hx_Vi (rest := []) S X (c_X7_isThere l G ad σ (i) hI (by omega)) gX7_isHeldBelow_X7_isThere rfl (n := 1) (by decide +kernel) rfl ⟨(Nat.le_of_ble_eq_true rfl), (Nat.le_of_ble_eq_true rfl)⟩ (hx_recvL (q0 := 0) (ci := 7) X rfl (mW_0 _ _ _)) hl.1 rfl (Nat.le_of_ble_eq_true rfl) dX7_isHeldBelow_19 ⟨(Nat.le_of_ble_eq_true rfl), (Nat.le_of_ble_eq_true rfl)⟩ (fun r wd1 H locs hp X => ?_)
        obtain ⟨hr19, rfl⟩ := hp
        by_cases h19 : liv σ (i)
        · skip
          refine hx_ei (hr19.1 h19) ?_
          refine lv_if_eq (tgt := 55) hx hb dX7_isHeldBelow_22 (by decide) (fun c9 => absurd c9 (by decide)) (fun _ => ?_)
          refine lv_aload_n hx hb dX7_isHeldBelow_25 rfl (lv_at hl 0 rfl) ?_
          refine hx_getL S X (ci := 7) 0 (mW_0 _ _ _) rfl hin7 5 (by decide) (by decide +kernel) rfl dX7_isHeldBelow_26 ?_
          refine lv_iload hx hb dX7_isHeldBelow_29 (lv_at hl 4 rfl) ?_
          refine mx_ld S X 5 (N := 32) (mW_5 _ _ _) (j := i) (by omega) (by decide) (x := σ 5 (i)) (rfl) dX7_isHeldBelow_31 ?_
          refine lv_iload_n hx hb dX7_isHeldBelow_32 rfl (lv_at hl 1 rfl) ?_
          refine lv_ishr hx hb dX7_isHeldBelow_33 ?_
          refine lv_iconst (v := 1) hx hb dX7_isHeldBelow_34 (by decide) ?_
          refine lv_iand hx hb dX7_isHeldBelow_35 ?_
          refine lv_iconst (v := 1) hx hb dX7_isHeldBelow_36 (by decide) ?_
          refine lv_icmp_ne (tgt := 55) hx hb dX7_isHeldBelow_37 (by decide) (fun c37 => ?_) (fun c37 => ?_)
          · skip
            refine lv_iconst (v := 0) hx hb dX7_isHeldBelow_55 (by decide) ?_
            refine lv_istore_n (lv' := [(3, .int ((0 : Int32))), (0, .ref (ad 0)), (1, .int (o)), (2, .int (v)), (4, .int (nI (i)))]) hx hb dX7_isHeldBelow_56 rfl hl (by decide) rfl (fun ls hl => ?_)
            refine lv_iinc (v := nI (i + 1)) (lv' := [(4, .int (nI (i + 1))), (3, .int ((0 : Int32))), (0, .ref (ad 0)), (1, .int (o)), (2, .int (v))]) hx hb dX7_isHeldBelow_57 hl (k := 4) rfl (nI_add (i) 1) (by decide) rfl (fun ls hl => ?_)
            refine lv_goto (tgt := 5) hx hb dX7_isHeldBelow_60 (by decide) ?_
            exact ih (i + 1) (0 : Int32) (by omega) (ex_no hv c13 (fun q => c37 q.2.1)) _ _ _ X (lv_sub hl [2, 3, 4, 1, 0] rfl)
          · skip
            refine lv_aload_n hx hb dX7_isHeldBelow_40 rfl (lv_at hl 0 rfl) ?_
            refine hx_getL S X (ci := 7) 0 (mW_0 _ _ _) rfl hin7 4 (by decide) (by decide +kernel) rfl dX7_isHeldBelow_41 ?_
            refine lv_iload hx hb dX7_isHeldBelow_44 (lv_at hl 4 rfl) ?_
            refine mx_ld S X 4 (N := 32) (mW_4 _ _ _) (j := i) (by omega) (by decide) (x := σ 4 (i)) (rfl) dX7_isHeldBelow_46 ?_
            refine lv_iload_n hx hb dX7_isHeldBelow_47 rfl (lv_at hl 2 rfl) ?_
            refine lv_icmp_ge (tgt := 55) hx hb dX7_isHeldBelow_48 (by decide) (fun c48 => ?_) (fun c48 => ?_)
            · skip
              refine lv_iconst (v := 0) hx hb dX7_isHeldBelow_55 (by decide) ?_
              refine lv_istore_n (lv' := [(3, .int ((0 : Int32))), (0, .ref (ad 0)), (1, .int (o)), (2, .int (v)), (4, .int (nI (i)))]) hx hb dX7_isHeldBelow_56 rfl hl (by decide) rfl (fun ls hl => ?_)
              refine lv_iinc (v := nI (i + 1)) (lv' := [(4, .int (nI (i + 1))), (3, .int ((0 : Int32))), (0, .ref (ad 0)), (1, .int (o)), (2, .int (v))]) hx hb dX7_isHeldBelow_57 hl (k := 4) rfl (nI_add (i) 1) (by decide) rfl (fun ls hl => ?_)
              refine lv_goto (tgt := 5) hx hb dX7_isHeldBelow_60 (by decide) ?_
              exact ih (i + 1) (0 : Int32) (by omega) (ex_no hv c13 (fun q => absurd q.2.2 (Int32.not_lt.mpr c48))) _ _ _ X (lv_sub hl [2, 3, 4, 1, 0] rfl)
            · skip
              refine lv_iconst (v := 1) hx hb dX7_isHeldBelow_51 (by decide) ?_
              refine lv_goto (tgt := 56) hx hb dX7_isHeldBelow_52 (by decide) ?_
              refine lv_istore_n (lv' := [(3, .int ((1 : Int32))), (0, .ref (ad 0)), (1, .int (o)), (2, .int (v)), (4, .int (nI (i)))]) hx hb dX7_isHeldBelow_56 rfl hl (by decide) rfl (fun ls hl => ?_)
              refine lv_iinc (v := nI (i + 1)) (lv' := [(4, .int (nI (i + 1))), (3, .int ((1 : Int32))), (0, .ref (ad 0)), (1, .int (o)), (2, .int (v))]) hx hb dX7_isHeldBelow_57 hl (k := 4) rfl (nI_add (i) 1) (by decide) rfl (fun ls hl => ?_)
              refine lv_goto (tgt := 5) hx hb dX7_isHeldBelow_60 (by decide) ?_
              exact ih (i + 1) (1 : Int32) (by omega) (ex_yes ⟨h19, c37, Int32.not_le.mp c48⟩) _ _ _ X (lv_sub hl [2, 3, 4, 1, 0] rfl)
        · skip
          refine hx_ei (hr19.2 h19) ?_
          refine lv_if_eq (tgt := 55) hx hb dX7_isHeldBelow_22 (by decide) (fun _ => ?_) (fun c9 => absurd (by decide) c9)
          refine lv_iconst (v := 0) hx hb dX7_isHeldBelow_55 (by decide) ?_
          refine lv_istore_n (lv' := [(3, .int ((0 : Int32))), (0, .ref (ad 0)), (1, .int (o)), (2, .int (v)), (4, .int (nI (i)))]) hx hb dX7_isHeldBelow_56 rfl hl (by decide) rfl (fun ls hl => ?_)
          refine lv_iinc (v := nI (i + 1)) (lv' := [(4, .int (nI (i + 1))), (3, .int ((0 : Int32))), (0, .ref (ad 0)), (1, .int (o)), (2, .int (v))]) hx hb dX7_isHeldBelow_57 hl (k := 4) rfl (nI_add (i) 1) (by decide) rfl (fun ls hl => ?_)
          refine lv_goto (tgt := 5) hx hb dX7_isHeldBelow_60 (by decide) ?_
          exact ih (i + 1) (0 : Int32) (by omega) (ex_no hv c13 (fun q => h19 q.1)) _ _ _ X (lv_sub hl [2, 3, 4, 1, 0] rfl)
  exact loop 32 0 0 (by omega) ex_0 _ _ _ X (lv_sub hl [2, 3, 4, 1, 0] rfl)

set_option maxRecDepth 100000 in
set_option maxHeartbeats 4000000 in
theorem c_X7_oldFrames (l : Launch) (G : hG) (ad : Nat → Nat) (σ : Sg) (type : Int32) (hI : Inv σ) : hMi l G yX7_oldFrames wsX7_oldFrames ({ frames := 3, cells := 0, slots := 0, locals := 64 } : Room) (mW G ad σ) [.ref (ad 0), .int (type)] (fun r w => r = (M_oldFrames σ type).1 ∧ w = mW G ad (M_oldFrames σ type).2) := by
  refine hMi.of (cc := cX7_oldFrames) (maxL := 4) (some .int) RX7 rfl (by decide +kernel) rfl (Nat.le_of_ble_eq_true rfl) ?_
  intro p e s m args below meth c S hr hlk X ls hl
  have hx := S.1
  have hb := S.2.1
  have hown := S.2.2.2.1
  have hts := S.2.2.2.2
  have hl : lv_has ls 4 [(0, .ref (ad 0)), (1, .int (type))] := hl
  have hin7 : ∀ w ∈ wsX70, w ∈ wsX7_oldFrames := by decide +kernel
  have hC6 : nC σ ≤ 6 := hI.1.2
  have hO24 : nO σ ≤ 24 := hI.2.1.2
  refine lv_aload_n hx hb dX7_oldFrames_0 rfl (lv_at hl 0 rfl) ?_
  refine lv_iload_n hx hb dX7_oldFrames_1 rfl (lv_at hl 1 rfl) ?_
  refine hx_Vi (rest := []) S X (c_X7_isClass l G ad σ (type) hI) gX7_oldFrames_X7_isClass rfl (n := 1) (by decide +kernel) rfl ⟨(Nat.le_of_ble_eq_true rfl), (Nat.le_of_ble_eq_true rfl)⟩ (hx_recvL (q0 := 0) (ci := 7) X rfl (mW_0 _ _ _)) hl.1 rfl (Nat.le_of_ble_eq_true rfl) dX7_oldFrames_2 ⟨(Nat.le_of_ble_eq_true rfl), (Nat.le_of_ble_eq_true rfl)⟩ (fun r wd1 H locs hp X => ?_)
  obtain ⟨hr2, rfl⟩ := hp
  by_cases h2 : isC σ (type)
  · skip
    refine hx_ei (hr2.1 h2) ?_
    have h2' := h2
    obtain ⟨t, ht, rfl⟩ := h2
    have hct : (nI t).toNatClampNeg = t := nI_clamp (by omega)
    obtain ⟨⟨hk0, hk1, hk2⟩, hks, hkv⟩ := hI.2.2.1 t ht
    refine lv_if_ne (tgt := 11) hx hb dX7_oldFrames_5 (by decide) (fun _ => ?_) (fun c9 => absurd c9 (by decide))
    refine lv_iconst (v := 0) hx hb dX7_oldFrames_11 (by decide) ?_
    refine lv_istore_n (lv' := [(2, .int ((0 : Int32))), (0, .ref (ad 0)), (1, .int (nI (t)))]) hx hb dX7_oldFrames_12 rfl hl (by decide) rfl (fun ls hl => ?_)
    refine lv_iconst (v := 0) hx hb dX7_oldFrames_13 (by decide) ?_
    refine lv_istore_n (lv' := [(3, .int ((0 : Int32))), (2, .int ((0 : Int32))), (0, .ref (ad 0)), (1, .int (nI (t)))]) hx hb dX7_oldFrames_14 rfl hl (by decide) rfl (fun ls hl => ?_)
    have loop : ∀ (n i : Nat) (y : Nat), i + n = 32 → y = cnp (oldP σ (nI t)) i → ∀ (H : Heap) (locs : List Loc) (ls : Array Slot), hH G (va_A (mW G ad σ) s.heap.size) s.heap s (mW G ad σ) H locs → lv_has ls 4 [(0, .ref (ad 0)), (1, .int (nI (t))), (2, .int (nI (y))), (3, .int (nI (i)))] → W p l e ({ frames := 3, cells := 0, slots := 0, locals := 64 } : Room) s m args below meth c H locs 0 0 (MQ below (va_Qi (fun r w => r = (M_oldFrames σ (nI t)).1 ∧ w = mW G ad (M_oldFrames σ (nI t)).2) (hB G (va_A (mW G ad σ) s.heap.size)) (va_A (mW G ad σ) s.heap.size)) args s 0 0 (va_A (mW G ad σ) s.heap.size)) (F0 m 15 ls []) := by
      intro n
      induction n with
      | zero =>
        intro i y hi hv H locs ls X hl
        have hi32 : i = 32 := by omega
        refine lv_iload_n hx hb dX7_oldFrames_15 rfl (lv_at hl 3 rfl) ?_
        refine lv_bipush (v := 32) hx hb dX7_oldFrames_16 (by decide) ?_
        refine lv_icmp_ge (tgt := 67) hx hb dX7_oldFrames_18 (by decide) (fun _ => ?_) (fun c9 => absurd (nI_le (a := 32) (b := i) (by omega) (by omega)) c9)
        refine lv_iload_n hx hb dX7_oldFrames_67 rfl (lv_at hl 2 rfl) ?_
        exact hx_iret S X hr hlk (Nat.le_of_ble_eq_true rfl) (Nat.le_of_ble_eq_true rfl) (by rw [hv, hi32]; simp [M_oldFrames, wif_t, wif_f, h2']) dX7_oldFrames_68
      | succ n ih =>
        intro i y hi hv H locs ls X hl
        have hi32 : i < 32 := by omega
        refine lv_iload_n hx hb dX7_oldFrames_15 rfl (lv_at hl 3 rfl) ?_
        refine lv_bipush (v := 32) hx hb dX7_oldFrames_16 (by decide) ?_
        refine lv_icmp_ge (tgt := 67) hx hb dX7_oldFrames_18 (by decide) (fun c9 => absurd c9 (nI_ge (a := i) (b := 32) (by omega) (by omega))) (fun _ => ?_)
        refine lv_iload_n hx hb dX7_oldFrames_21 rfl (lv_at hl 2 rfl) ?_
        refine lv_aload_n hx hb dX7_oldFrames_22 rfl (lv_at hl 0 rfl) ?_
        refine lv_iload_n hx hb dX7_oldFrames_23 rfl (lv_at hl 3 rfl) ?_
        refine hx_Vi (rest := [.int (nI (y))]) S X (c_X7_isThere l G ad σ (i) hI (by omega)) gX7_oldFrames_X7_isThere rfl (n := 1) (by decide +kernel) rfl ⟨(Nat.le_of_ble_eq_true rfl), (Nat.le_of_ble_eq_true rfl)⟩ (hx_recvL (q0 := 0) (ci := 7) X rfl (mW_0 _ _ _)) hl.1 rfl (Nat.le_of_ble_eq_true rfl) dX7_oldFrames_24 ⟨(Nat.le_of_ble_eq_true rfl), (Nat.le_of_ble_eq_true rfl)⟩ (fun r wd1 H locs hp X => ?_)
        obtain ⟨hr24, rfl⟩ := hp
        by_cases h24 : liv σ (i)
        · skip
          refine hx_ei (hr24.1 h24) ?_
          refine lv_if_eq (tgt := 58) hx hb dX7_oldFrames_27 (by decide) (fun c9 => absurd c9 (by decide)) (fun _ => ?_)
          refine lv_aload_n hx hb dX7_oldFrames_30 rfl (lv_at hl 0 rfl) ?_
          refine hx_getL S X (ci := 7) 0 (mW_0 _ _ _) rfl hin7 3 (by decide) (by decide +kernel) rfl dX7_oldFrames_31 ?_
          refine lv_iload_n hx hb dX7_oldFrames_34 rfl (lv_at hl 3 rfl) ?_
          refine mx_ld S X 3 (N := 32) (mW_3 _ _ _) (j := i) (by omega) (by decide) (x := σ 3 (i)) (rfl) dX7_oldFrames_35 ?_
          refine lv_iload_n hx hb dX7_oldFrames_36 rfl (lv_at hl 1 rfl) ?_
          refine lv_icmp_ne (tgt := 58) hx hb dX7_oldFrames_37 (by decide) (fun c37 => ?_) (fun c37 => ?_)
          · skip
            refine lv_iconst (v := 0) hx hb dX7_oldFrames_58 (by decide) ?_
            refine lv_iadd hx hb dX7_oldFrames_59 ?_
            refine hx_ei (show _ = nI (y + 0) from nI_add (y) (0)) ?_
            refine lv_istore_n (lv' := [(2, .int (nI (y + 0))), (0, .ref (ad 0)), (1, .int (nI (t))), (3, .int (nI (i)))]) hx hb dX7_oldFrames_60 rfl hl (by decide) rfl (fun ls hl => ?_)
            refine lv_iinc (v := nI (i + 1)) (lv' := [(3, .int (nI (i + 1))), (2, .int (nI (y + 0))), (0, .ref (ad 0)), (1, .int (nI (t)))]) hx hb dX7_oldFrames_61 hl (k := 3) rfl (nI_add (i) 1) (by decide) rfl (fun ls hl => ?_)
            refine lv_goto (tgt := 15) hx hb dX7_oldFrames_64 (by decide) ?_
            exact ih (i + 1) (y + 0) (by omega) (by rw [hv, Nat.add_zero, cnp_f (fun q => c37 q.2.1)]) _ _ _ X (lv_sub hl [2, 3, 1, 0] rfl)
          · skip
            refine lv_aload_n hx hb dX7_oldFrames_40 rfl (lv_at hl 0 rfl) ?_
            refine hx_getL S X (ci := 7) 0 (mW_0 _ _ _) rfl hin7 4 (by decide) (by decide +kernel) rfl dX7_oldFrames_41 ?_
            refine lv_iload_n hx hb dX7_oldFrames_44 rfl (lv_at hl 3 rfl) ?_
            refine mx_ld S X 4 (N := 32) (mW_4 _ _ _) (j := i) (by omega) (by decide) (x := σ 4 (i)) (rfl) dX7_oldFrames_45 ?_
            refine lv_aload_n hx hb dX7_oldFrames_46 rfl (lv_at hl 0 rfl) ?_
            refine lv_iload_n hx hb dX7_oldFrames_47 rfl (lv_at hl 1 rfl) ?_
            refine hx_Vi (rest := [.int (σ 4 (i)), .int (nI (y))]) S X (c_X7_current l G ad σ (t) (by omega)) gX7_oldFrames_X7_current rfl (n := 1) (by decide +kernel) rfl ⟨(Nat.le_of_ble_eq_true rfl), (Nat.le_of_ble_eq_true rfl)⟩ (hx_recvL (q0 := 0) (ci := 7) X rfl (mW_0 _ _ _)) hl.1 rfl (Nat.le_of_ble_eq_true rfl) dX7_oldFrames_48 ⟨(Nat.le_of_ble_eq_true rfl), (Nat.le_of_ble_eq_true rfl)⟩ (fun r wd1 H locs hp X => ?_)
            obtain ⟨rfl, rfl⟩ := hp
            refine hx_ei (show _ = nI (cnt σ t) - 1 from by rw [show σ 1 (162 * t + 0) = nI (cnt σ t) from hk0]) ?_
            refine lv_icmp_eq (tgt := 58) hx hb dX7_oldFrames_51 (by decide) (fun c51 => ?_) (fun c51 => ?_)
            · skip
              refine lv_iconst (v := 0) hx hb dX7_oldFrames_58 (by decide) ?_
              refine lv_iadd hx hb dX7_oldFrames_59 ?_
              refine hx_ei (show _ = nI (y + 0) from nI_add (y) (0)) ?_
              refine lv_istore_n (lv' := [(2, .int (nI (y + 0))), (0, .ref (ad 0)), (1, .int (nI (t))), (3, .int (nI (i)))]) hx hb dX7_oldFrames_60 rfl hl (by decide) rfl (fun ls hl => ?_)
              refine lv_iinc (v := nI (i + 1)) (lv' := [(3, .int (nI (i + 1))), (2, .int (nI (y + 0))), (0, .ref (ad 0)), (1, .int (nI (t)))]) hx hb dX7_oldFrames_61 hl (k := 3) rfl (nI_add (i) 1) (by decide) rfl (fun ls hl => ?_)
              refine lv_goto (tgt := 15) hx hb dX7_oldFrames_64 (by decide) ?_
              exact ih (i + 1) (y + 0) (by omega) (by rw [hv, Nat.add_zero, cnp_f (fun q => q.2.2 (by rw [show cN (nI t) = t from hct]; exact c51))]) _ _ _ X (lv_sub hl [2, 3, 1, 0] rfl)
            · skip
              refine lv_iconst (v := 1) hx hb dX7_oldFrames_54 (by decide) ?_
              refine lv_goto (tgt := 59) hx hb dX7_oldFrames_55 (by decide) ?_
              refine lv_iadd hx hb dX7_oldFrames_59 ?_
              refine hx_ei (show _ = nI (y + 1) from nI_add (y) (1)) ?_
              refine lv_istore_n (lv' := [(2, .int (nI (y + 1))), (0, .ref (ad 0)), (1, .int (nI (t))), (3, .int (nI (i)))]) hx hb dX7_oldFrames_60 rfl hl (by decide) rfl (fun ls hl => ?_)
              refine lv_iinc (v := nI (i + 1)) (lv' := [(3, .int (nI (i + 1))), (2, .int (nI (y + 1))), (0, .ref (ad 0)), (1, .int (nI (t)))]) hx hb dX7_oldFrames_61 hl (k := 3) rfl (nI_add (i) 1) (by decide) rfl (fun ls hl => ?_)
              refine lv_goto (tgt := 15) hx hb dX7_oldFrames_64 (by decide) ?_
              exact ih (i + 1) (y + 1) (by omega) (by rw [hv, cnp_t ⟨h24, c37, by rw [show cN (nI t) = t from hct]; exact c51⟩]) _ _ _ X (lv_sub hl [2, 3, 1, 0] rfl)
        · skip
          refine hx_ei (hr24.2 h24) ?_
          refine lv_if_eq (tgt := 58) hx hb dX7_oldFrames_27 (by decide) (fun _ => ?_) (fun c9 => absurd (by decide) c9)
          refine lv_iconst (v := 0) hx hb dX7_oldFrames_58 (by decide) ?_
          refine lv_iadd hx hb dX7_oldFrames_59 ?_
          refine hx_ei (show _ = nI (y + 0) from nI_add (y) (0)) ?_
          refine lv_istore_n (lv' := [(2, .int (nI (y + 0))), (0, .ref (ad 0)), (1, .int (nI (t))), (3, .int (nI (i)))]) hx hb dX7_oldFrames_60 rfl hl (by decide) rfl (fun ls hl => ?_)
          refine lv_iinc (v := nI (i + 1)) (lv' := [(3, .int (nI (i + 1))), (2, .int (nI (y + 0))), (0, .ref (ad 0)), (1, .int (nI (t)))]) hx hb dX7_oldFrames_61 hl (k := 3) rfl (nI_add (i) 1) (by decide) rfl (fun ls hl => ?_)
          refine lv_goto (tgt := 15) hx hb dX7_oldFrames_64 (by decide) ?_
          exact ih (i + 1) (y + 0) (by omega) (by rw [hv, Nat.add_zero, cnp_f (fun q => h24 q.1)]) _ _ _ X (lv_sub hl [2, 3, 1, 0] rfl)
    exact loop 32 0 0 (by omega) rfl _ _ _ X (lv_sub hl [2, 3, 1, 0] rfl)
  · skip
    refine hx_ei (hr2.2 h2) ?_
    refine lv_if_ne (tgt := 11) hx hb dX7_oldFrames_5 (by decide) (fun c9 => absurd (by decide) c9) (fun _ => ?_)
    refine lv_ldc (v := -2000001) hx hb hown (hts (Cond.constant RX7 66 (-2000001)) (by decide +kernel)) dX7_oldFrames_8 ?_
    exact hx_iret S X hr hlk (Nat.le_of_ble_eq_true rfl) (Nat.le_of_ble_eq_true rfl) (by simp [M_oldFrames, wif_t, wif_f, h2]) dX7_oldFrames_10

set_option maxRecDepth 100000 in
set_option maxHeartbeats 4000000 in
theorem c_X7_delete (l : Launch) (G : hG) (ad : Nat → Nat) (σ : Sg) (o : Nat) (ho : o < 24) : hMv l G yX7_delete wsX7_delete ({ frames := 0, cells := 0, slots := 0, locals := 0 } : Room) (mW G ad σ) [.ref (ad 0), .int (nI (o))] (fun w => w = mW G ad (M_delete σ o)) := by
  refine hMv.of (cc := cX7_delete) (maxL := 3) none RX7 rfl (by decide +kernel) rfl (Nat.le_of_ble_eq_true rfl) ?_
  intro p e s m args below meth c S hr hlk hin X ls hl
  have hx := S.1
  have hb := S.2.1
  have hown := S.2.2.2.1
  have hts := S.2.2.2.2
  have hl : lv_has ls 3 [(0, .ref (ad 0)), (1, .int (nI (o)))] := hl
  have hin7 : ∀ w ∈ wsX70, w ∈ wsX7_delete := by decide +kernel
  refine lv_aload_n hx hb dX7_delete_0 rfl (lv_at hl 0 rfl) ?_
  refine hx_getL S X (ci := 7) 0 (mW_0 _ _ _) rfl hin7 7 (by decide) (by decide +kernel) rfl dX7_delete_1 ?_
  refine lv_iload_n hx hb dX7_delete_4 rfl (lv_at hl 1 rfl) ?_
  refine lv_iconst (v := 0) hx hb dX7_delete_5 (by decide) ?_
  refine mx_zst S X (j := o) (by omega) (x := (0 : Int32)) (by decide) dX7_delete_6 (fun H locs X => ?_)
  refine lv_iconst (v := 0) hx hb dX7_delete_7 (by decide) ?_
  refine lv_istore_n (lv' := [(2, .int ((0 : Int32))), (0, .ref (ad 0)), (1, .int (nI (o)))]) hx hb dX7_delete_8 rfl hl (by decide) rfl (fun ls hl => ?_)
  have loop : ∀ (n i : Nat) , i + n = 32 → True → ∀ (H : Heap) (locs : List Loc) (ls : Array Slot), hH G (va_A (mW G ad σ) s.heap.size) s.heap s (mW G ad (dlL σ o i)) H locs → lv_has ls 3 [(0, .ref (ad 0)), (1, .int (nI (o))), (2, .int (nI (i)))] → W p l e ({ frames := 0, cells := 0, slots := 0, locals := 0 } : Room) s m args below meth c H locs 0 0 (MQ below (va_Qv (fun w => w = mW G ad (M_delete σ o)) (hB G (va_A (mW G ad σ) s.heap.size)) (va_A (mW G ad σ) s.heap.size)) args s 0 0 (va_A (mW G ad σ) s.heap.size)) (F0 m 9 ls []) := by
    intro n
    induction n with
    | zero =>
      intro i  hi hv H locs ls X hl
      have hi32 : i = 32 := by omega
      refine lv_iload_n hx hb dX7_delete_9 rfl (lv_at hl 2 rfl) ?_
      refine lv_bipush (v := 32) hx hb dX7_delete_10 (by decide) ?_
      refine lv_icmp_ge (tgt := 35) hx hb dX7_delete_12 (by decide) (fun _ => ?_) (fun c9 => absurd (nI_le (a := 32) (b := i) (by omega) (by omega)) c9)
      exact hx_vret S X hr hlk (Nat.le_of_ble_eq_true rfl) (Nat.le_of_ble_eq_true rfl) (by rw [hi32]; rfl) dX7_delete_35
    | succ n ih =>
      intro i  hi hv H locs ls X hl
      have hi32 : i < 32 := by omega
      refine lv_iload_n hx hb dX7_delete_9 rfl (lv_at hl 2 rfl) ?_
      refine lv_bipush (v := 32) hx hb dX7_delete_10 (by decide) ?_
      refine lv_icmp_ge (tgt := 35) hx hb dX7_delete_12 (by decide) (fun c9 => absurd c9 (nI_ge (a := i) (b := 32) (by omega) (by omega))) (fun _ => ?_)
      refine lv_aload_n hx hb dX7_delete_15 rfl (lv_at hl 0 rfl) ?_
      refine hx_getL S X (ci := 7) 0 (mW_0 _ _ _) rfl hin7 5 (by decide) (by decide +kernel) rfl dX7_delete_16 ?_
      refine lv_iload_n hx hb dX7_delete_19 rfl (lv_at hl 2 rfl) ?_
      refine lv_dup2_11 hx hb dX7_delete_20 rfl rfl ?_
      refine mx_ld S X 5 (N := 32) (mW_5 _ _ _) (j := i) (by omega) (by decide) (x := (dlL σ o i) 5 (i)) (rfl) dX7_delete_21 ?_
      refine lv_iconst (v := 1) hx hb dX7_delete_22 (by decide) ?_
      refine lv_iload_n hx hb dX7_delete_23 rfl (lv_at hl 1 rfl) ?_
      refine lv_ishl hx hb dX7_delete_24 ?_
      refine lv_iconst (v := -1) hx hb dX7_delete_25 (by decide) ?_
      refine lv_ixor hx hb dX7_delete_26 ?_
      refine lv_iand hx hb dX7_delete_27 ?_
      refine mx_st S X 5 (N := 32) (mW_5 _ _ _) (j := i) (by omega) (by decide) (x := ((dlL σ o i) 5 (i)) &&& ((((1 : Int32)) <<< ((nI (o)) &&& 31)) ^^^ ((-1 : Int32)))) dX7_delete_28 (mW_s5 _ _ _ _ _) (fun H locs X => ?_)
      refine lv_iinc (v := nI (i + 1)) (lv' := [(2, .int (nI (i + 1))), (0, .ref (ad 0)), (1, .int (nI (o)))]) hx hb dX7_delete_29 hl (k := 2) rfl (nI_add (i) 1) (by decide) rfl (fun ls hl => ?_)
      refine lv_goto (tgt := 9) hx hb dX7_delete_32 (by decide) ?_
      exact ih (i + 1) (by omega) trivial _ _ _ X (lv_sub hl [1, 2, 0] rfl)
  exact loop 32 0 (by omega) trivial _ _ _ X (lv_sub hl [1, 2, 0] rfl)

set_option maxRecDepth 100000 in
set_option maxHeartbeats 4000000 in
theorem c_X7_rollback (l : Launch) (G : hG) (ad : Nat → Nat) (σ : Sg) (type : Int32) (hI : Inv σ) : hMi l G yX7_rollback wsX7_rollback ({ frames := 3, cells := 0, slots := 0, locals := 64 } : Room) (mW G ad σ) [.ref (ad 0), .int (type)] (fun r w => r = (M_rollback σ type).1 ∧ w = mW G ad (M_rollback σ type).2) := by
  refine hMi.of (cc := cX7_rollback) (maxL := 4) (some .int) RX7 rfl (by decide +kernel) rfl (Nat.le_of_ble_eq_true rfl) ?_
  intro p e s m args below meth c S hr hlk X ls hl
  have hx := S.1
  have hb := S.2.1
  have hown := S.2.2.2.1
  have hts := S.2.2.2.2
  have hl : lv_has ls 4 [(0, .ref (ad 0)), (1, .int (type))] := hl
  have hin7 : ∀ w ∈ wsX70, w ∈ wsX7_rollback := by decide +kernel
  have hC6 : nC σ ≤ 6 := hI.1.2
  have hO24 : nO σ ≤ 24 := hI.2.1.2
  refine lv_aload_n hx hb dX7_rollback_0 rfl (lv_at hl 0 rfl) ?_
  refine lv_iload_n hx hb dX7_rollback_1 rfl (lv_at hl 1 rfl) ?_
  refine hx_Vi (rest := []) S X (c_X7_isClass l G ad σ (type) hI) gX7_rollback_X7_isClass rfl (n := 1) (by decide +kernel) rfl ⟨(Nat.le_of_ble_eq_true rfl), (Nat.le_of_ble_eq_true rfl)⟩ (hx_recvL (q0 := 0) (ci := 7) X rfl (mW_0 _ _ _)) hl.1 rfl (Nat.le_of_ble_eq_true rfl) dX7_rollback_2 ⟨(Nat.le_of_ble_eq_true rfl), (Nat.le_of_ble_eq_true rfl)⟩ (fun r wd1 H locs hp X => ?_)
  obtain ⟨hr2, rfl⟩ := hp
  by_cases h2 : isC σ (type)
  · skip
    refine hx_ei (hr2.1 h2) ?_
    have h2' := h2
    obtain ⟨t, ht, rfl⟩ := h2
    have hct : (nI t).toNatClampNeg = t := nI_clamp (by omega)
    obtain ⟨⟨hk0, hk1, hk2⟩, hks, hkv⟩ := hI.2.2.1 t ht
    refine lv_if_ne (tgt := 11) hx hb dX7_rollback_5 (by decide) (fun _ => ?_) (fun c9 => absurd c9 (by decide))
    refine lv_aload_n hx hb dX7_rollback_11 rfl (lv_at hl 0 rfl) ?_
    refine lv_iload_n hx hb dX7_rollback_12 rfl (lv_at hl 1 rfl) ?_
    refine hx_Vi (rest := []) S X (c_X7_current l G ad σ (t) (by omega)) gX7_rollback_X7_current rfl (n := 1) (by decide +kernel) rfl ⟨(Nat.le_of_ble_eq_true rfl), (Nat.le_of_ble_eq_true rfl)⟩ (hx_recvL (q0 := 0) (ci := 7) X rfl (mW_0 _ _ _)) hl.1 rfl (Nat.le_of_ble_eq_true rfl) dX7_rollback_13 ⟨(Nat.le_of_ble_eq_true rfl), (Nat.le_of_ble_eq_true rfl)⟩ (fun r wd1 H locs hp X => ?_)
    obtain ⟨rfl, rfl⟩ := hp
    refine hx_ei (show _ = nI (cnt σ t) - 1 from by rw [show σ 1 (162 * t + 0) = nI (cnt σ t) from hk0]) ?_
    refine hx_ei (show _ = nI (cnt σ t - 1) from pk_sub (a := cnt σ t) (b := 1) hk1) ?_
    refine lv_istore_n (lv' := [(2, .int (nI (cnt σ t - 1))), (0, .ref (ad 0)), (1, .int (nI (t)))]) hx hb dX7_rollback_16 rfl hl (by decide) rfl (fun ls hl => ?_)
    refine lv_iload_n hx hb dX7_rollback_17 rfl (lv_at hl 0 rfl) ?_
    refine lv_if_ne (tgt := 24) hx hb dX7_rollback_18 (by decide) (fun c18 => ?_) (fun c18 => ?_)
    · skip
      have c18 := (not_congr (nI_eq (a := cnt σ t - 1) (b := 0) (by omega) (by omega))).mp c18
      refine lv_aload_n hx hb dX7_rollback_24 rfl (lv_at hl 1 rfl) ?_
      refine lv_iload_n hx hb dX7_rollback_25 rfl (lv_at hl 2 rfl) ?_
      refine lv_iload_n hx hb dX7_rollback_26 rfl (lv_at hl 0 rfl) ?_
      refine hx_Vi (rest := []) S X (c_X7_runs l G ad σ (nI (t)) (nI (cnt σ t - 1)) hI) gX7_rollback_X7_runs rfl (n := 2) (by decide +kernel) rfl ⟨(Nat.le_of_ble_eq_true rfl), (Nat.le_of_ble_eq_true rfl)⟩ (hx_recvL (q0 := 0) (ci := 7) X rfl (mW_0 _ _ _)) hl.1 rfl (Nat.le_of_ble_eq_true rfl) dX7_rollback_27 ⟨(Nat.le_of_ble_eq_true rfl), (Nat.le_of_ble_eq_true rfl)⟩ (fun r wd1 H locs hp X => ?_)
      obtain ⟨hr27, rfl⟩ := hp
      by_cases h27 : ∃ j, j < 32 ∧ runP σ (nI (t)) (nI (cnt σ t - 1)) j
      · skip
        refine hx_ei (hr27.1 h27) ?_
        refine lv_if_eq (tgt := 36) hx hb dX7_rollback_30 (by decide) (fun c9 => absurd c9 (by decide)) (fun _ => ?_)
        refine lv_ldc (v := -2000015) hx hb hown (hts (Cond.constant RX7 95 (-2000015)) (by decide +kernel)) dX7_rollback_33 ?_
        exact hx_iret S X hr hlk (Nat.le_of_ble_eq_true rfl) (Nat.le_of_ble_eq_true rfl) (by simp [M_rollback, wif_t, wif_f, h2', hct, c18, h27]) dX7_rollback_35
      · skip
        refine hx_ei (hr27.2 h27) ?_
        refine lv_if_eq (tgt := 36) hx hb dX7_rollback_30 (by decide) (fun _ => ?_) (fun c9 => absurd (by decide) c9)
        refine lv_iconst (v := 0) hx hb dX7_rollback_36 (by decide) ?_
        refine lv_istore_n (lv' := [(3, .int ((0 : Int32))), (2, .int (nI (cnt σ t - 1))), (0, .ref (ad 0)), (1, .int (nI (t)))]) hx hb dX7_rollback_37 rfl hl (by decide) rfl (fun ls hl => ?_)
        have loop : ∀ (n i : Nat) , i + n = nO σ → True → ∀ (H : Heap) (locs : List Loc) (ls : Array Slot), hH G (va_A (mW G ad σ) s.heap.size) s.heap s (mW G ad (rbL σ (nI t) (nI (cnt σ t - 1)) i)) H locs → lv_has ls 4 [(0, .ref (ad 0)), (1, .int (nI (t))), (2, .int (nI (cnt σ t - 1))), (3, .int (nI (i)))] → W p l e ({ frames := 3, cells := 0, slots := 0, locals := 64 } : Room) s m args below meth c H locs 0 0 (MQ below (va_Qi (fun r w => r = (M_rollback σ (nI t)).1 ∧ w = mW G ad (M_rollback σ (nI t)).2) (hB G (va_A (mW G ad σ) s.heap.size)) (va_A (mW G ad σ) s.heap.size)) args s 0 0 (va_A (mW G ad σ) s.heap.size)) (F0 m 38 ls []) := by
          intro n
          induction n with
          | zero =>
            intro i  hi hv H locs ls X hl
            have hin : i = nO σ := by omega
            refine lv_iload_n hx hb dX7_rollback_38 rfl (lv_at hl 3 rfl) ?_
            refine lv_aload_n hx hb dX7_rollback_39 rfl (lv_at hl 0 rfl) ?_
            refine hx_getL S X (ci := 7) 0 (mW_0 _ _ _) rfl hin7 6 (by decide) (by decide +kernel) rfl dX7_rollback_40 ?_
            refine hx_ei (show _ = nI (nO σ) from (rbL_k i (by decide) (by decide) (by decide) 1).trans hI.2.1.1) ?_
            refine lv_icmp_ge (tgt := 109) hx hb dX7_rollback_43 (by decide) (fun _ => ?_) (fun c9 => absurd (nI_le (a := nO σ) (b := i) (by omega) (by omega)) c9)
            refine lv_aload_n hx hb dX7_rollback_109 rfl (lv_at hl 0 rfl) ?_
            refine hx_getL S X (ci := 7) 0 (mW_0 _ _ _) rfl hin7 1 (by decide) (by decide +kernel) rfl dX7_rollback_110 ?_
            refine lv_iload_n hx hb dX7_rollback_113 rfl (lv_at hl 1 rfl) ?_
            refine lv_iconst (v := 1) hx hb dX7_rollback_114 (by decide) ?_
            refine hx_Si (rest := [.ref (ad 1)]) S X (c_X7_at l G _ (t) (1)) gX7_rollback_X7_at rfl (n := 2) (by decide +kernel) rfl ⟨(Nat.le_of_ble_eq_true rfl), (Nat.le_of_ble_eq_true rfl)⟩ hl.1 rfl (Nat.le_of_ble_eq_true rfl) dX7_rollback_115 ⟨(Nat.le_of_ble_eq_true rfl), (Nat.le_of_ble_eq_true rfl)⟩ (fun r wd1 H locs hp X => ?_)
            obtain ⟨rfl, rfl⟩ := hp
            refine lv_iconst (v := 0) hx hb dX7_rollback_118 (by decide) ?_
            refine mx_st S X 1 (N := 972) (mW_1 _ _ _) (j := 162 * t + 1) (by omega) (by decide) (x := (0 : Int32)) dX7_rollback_119 (mW_s1 _ _ _ _ _) (fun H locs X => ?_)
            refine lv_aload_n hx hb dX7_rollback_120 rfl (lv_at hl 0 rfl) ?_
            refine hx_getL S X (ci := 7) 0 (mW_0 _ _ _) rfl hin7 1 (by decide) (by decide +kernel) rfl dX7_rollback_121 ?_
            refine lv_iload_n hx hb dX7_rollback_124 rfl (lv_at hl 1 rfl) ?_
            refine lv_iconst (v := 0) hx hb dX7_rollback_125 (by decide) ?_
            refine hx_Si (rest := [.ref (ad 1)]) S X (c_X7_at l G _ (t) (0)) gX7_rollback_X7_at rfl (n := 2) (by decide +kernel) rfl ⟨(Nat.le_of_ble_eq_true rfl), (Nat.le_of_ble_eq_true rfl)⟩ hl.1 rfl (Nat.le_of_ble_eq_true rfl) dX7_rollback_126 ⟨(Nat.le_of_ble_eq_true rfl), (Nat.le_of_ble_eq_true rfl)⟩ (fun r wd1 H locs hp X => ?_)
            obtain ⟨rfl, rfl⟩ := hp
            refine lv_dup2_11 hx hb dX7_rollback_129 rfl rfl ?_
            refine mx_ld S X 1 (N := 972) (mW_1 _ _ _) (j := 162 * t + 0) (by omega) (by decide) (x := nI (cnt σ t)) (by rw [mS_ne _ _ _ (by omega)]; exact (rbL_k i (by decide) (by decide) (by decide) _).trans hk0) dX7_rollback_130 ?_
            refine lv_iconst (v := 1) hx hb dX7_rollback_131 (by decide) ?_
            refine lv_isub hx hb dX7_rollback_132 ?_
            refine hx_ei (show _ = nI ((cnt σ t) - (1)) from pk_sub (a := cnt σ t) (b := 1) (by omega)) ?_
            refine mx_st S X 1 (N := 972) (mW_1 _ _ _) (j := 162 * t + 0) (by omega) (by decide) (x := nI ((cnt σ t) - (1))) dX7_rollback_133 (mW_s1 _ _ _ _ _) (fun H locs X => ?_)
            refine lv_aload_n hx hb dX7_rollback_134 rfl (lv_at hl 0 rfl) ?_
            refine lv_iload_n hx hb dX7_rollback_135 rfl (lv_at hl 1 rfl) ?_
            refine hx_Vi (rest := []) S X (c_X7_current l G ad (mS (mS (rbL σ (nI t) (nI (cnt σ t - 1)) i) 1 (162 * t + 1) ((0 : Int32))) 1 (162 * t + 0) (nI ((cnt σ t) - (1)))) (t) (by omega)) gX7_rollback_X7_current rfl (n := 1) (by decide +kernel) rfl ⟨(Nat.le_of_ble_eq_true rfl), (Nat.le_of_ble_eq_true rfl)⟩ (hx_recvL (q0 := 0) (ci := 7) X rfl (mW_0 _ _ _)) hl.1 rfl (Nat.le_of_ble_eq_true rfl) dX7_rollback_136 ⟨(Nat.le_of_ble_eq_true rfl), (Nat.le_of_ble_eq_true rfl)⟩ (fun r wd1 H locs hp X => ?_)
            obtain ⟨rfl, rfl⟩ := hp
            refine hx_ei (show _ = nI ((cnt σ t) - (1)) - 1 from by rw [show (mS (mS (rbL σ (nI t) (nI (cnt σ t - 1)) i) 1 (162 * t + 1) ((0 : Int32))) 1 (162 * t + 0) (nI ((cnt σ t) - (1)))) 1 (162 * t + 0) = nI ((cnt σ t) - (1)) from by rw [mS_eq]]) ?_
            exact hx_iret S X hr hlk (Nat.le_of_ble_eq_true rfl) (Nat.le_of_ble_eq_true rfl) (by rw [hin]; simp [M_rollback, wif_t, wif_f, h2', hct, c18, h27]) dX7_rollback_139
          | succ n ih =>
            intro i  hi hv H locs ls X hl
            have hin : i < nO σ := by omega
            refine lv_iload_n hx hb dX7_rollback_38 rfl (lv_at hl 3 rfl) ?_
            refine lv_aload_n hx hb dX7_rollback_39 rfl (lv_at hl 0 rfl) ?_
            refine hx_getL S X (ci := 7) 0 (mW_0 _ _ _) rfl hin7 6 (by decide) (by decide +kernel) rfl dX7_rollback_40 ?_
            refine hx_ei (show _ = nI (nO σ) from (rbL_k i (by decide) (by decide) (by decide) 1).trans hI.2.1.1) ?_
            refine lv_icmp_ge (tgt := 109) hx hb dX7_rollback_43 (by decide) (fun c9 => absurd c9 (nI_ge (a := i) (b := nO σ) (by omega) (by omega))) (fun _ => ?_)
            refine lv_aload_n hx hb dX7_rollback_46 rfl (lv_at hl 0 rfl) ?_
            refine hx_getL S X (ci := 7) 0 (mW_0 _ _ _) rfl hin7 7 (by decide) (by decide +kernel) rfl dX7_rollback_47 ?_
            refine lv_iload_n hx hb dX7_rollback_50 rfl (lv_at hl 3 rfl) ?_
            refine mx_zld S X (j := i) (by omega) (x := (rbL σ (nI t) (nI (cnt σ t - 1)) i) 6 (i)) (rfl) dX7_rollback_51 ?_
            refine lv_if_eq (tgt := 103) hx hb dX7_rollback_52 (by decide) (fun c52 => ?_) (fun c52 => ?_)
            · skip
              refine lv_iinc (v := nI (i + 1)) (lv' := [(3, .int (nI (i + 1))), (0, .ref (ad 0)), (1, .int (nI (t))), (2, .int (nI (cnt σ t - 1)))]) hx hb dX7_rollback_103 hl (k := 3) rfl (nI_add (i) 1) (by decide) rfl (fun ls hl => ?_)
              refine lv_goto (tgt := 38) hx hb dX7_rollback_106 (by decide) ?_
              exact ih (i + 1) (by omega) trivial _ _ _ (X.to (congrArg (mW G ad) (show _ = (rbL σ (nI t) (nI (cnt σ t - 1)) (i + 1)) from by rw [rbL, wif_f (fun q => q.1 c52)]))) (lv_sub hl [1, 2, 3, 0] rfl)
            · skip
              refine lv_aload_n hx hb dX7_rollback_55 rfl (lv_at hl 0 rfl) ?_
              refine hx_getL S X (ci := 7) 0 (mW_0 _ _ _) rfl hin7 8 (by decide) (by decide +kernel) rfl dX7_rollback_56 ?_
              refine lv_iload_n hx hb dX7_rollback_59 rfl (lv_at hl 3 rfl) ?_
              refine mx_ld S X 7 (N := 24) (mW_7 _ _ _) (j := i) (by omega) (by decide) (x := (rbL σ (nI t) (nI (cnt σ t - 1)) i) 7 (i)) (rfl) dX7_rollback_60 ?_
              refine lv_iload_n hx hb dX7_rollback_61 rfl (lv_at hl 1 rfl) ?_
              refine lv_icmp_ne (tgt := 103) hx hb dX7_rollback_62 (by decide) (fun c62 => ?_) (fun c62 => ?_)
              · skip
                refine lv_iinc (v := nI (i + 1)) (lv' := [(3, .int (nI (i + 1))), (0, .ref (ad 0)), (1, .int (nI (t))), (2, .int (nI (cnt σ t - 1)))]) hx hb dX7_rollback_103 hl (k := 3) rfl (nI_add (i) 1) (by decide) rfl (fun ls hl => ?_)
                refine lv_goto (tgt := 38) hx hb dX7_rollback_106 (by decide) ?_
                exact ih (i + 1) (by omega) trivial _ _ _ (X.to (congrArg (mW G ad) (show _ = (rbL σ (nI t) (nI (cnt σ t - 1)) (i + 1)) from by rw [rbL, wif_f (fun q => c62 q.2.1)]))) (lv_sub hl [1, 2, 3, 0] rfl)
              · skip
                refine lv_aload_n hx hb dX7_rollback_65 rfl (lv_at hl 0 rfl) ?_
                refine hx_getL S X (ci := 7) 0 (mW_0 _ _ _) rfl hin7 9 (by decide) (by decide +kernel) rfl dX7_rollback_66 ?_
                refine lv_iload_n hx hb dX7_rollback_69 rfl (lv_at hl 3 rfl) ?_
                refine mx_ld S X 8 (N := 24) (mW_8 _ _ _) (j := i) (by omega) (by decide) (x := (rbL σ (nI t) (nI (cnt σ t - 1)) i) 8 (i)) (rfl) dX7_rollback_70 ?_
                refine lv_iload_n hx hb dX7_rollback_71 rfl (lv_at hl 2 rfl) ?_
                refine lv_icmp_ne (tgt := 103) hx hb dX7_rollback_72 (by decide) (fun c72 => ?_) (fun c72 => ?_)
                · skip
                  refine lv_iinc (v := nI (i + 1)) (lv' := [(3, .int (nI (i + 1))), (0, .ref (ad 0)), (1, .int (nI (t))), (2, .int (nI (cnt σ t - 1)))]) hx hb dX7_rollback_103 hl (k := 3) rfl (nI_add (i) 1) (by decide) rfl (fun ls hl => ?_)
                  refine lv_goto (tgt := 38) hx hb dX7_rollback_106 (by decide) ?_
                  exact ih (i + 1) (by omega) trivial _ _ _ (X.to (congrArg (mW G ad) (show _ = (rbL σ (nI t) (nI (cnt σ t - 1)) (i + 1)) from by rw [rbL, wif_f (fun q => c72 q.2.2)]))) (lv_sub hl [1, 2, 3, 0] rfl)
                · skip
                  refine lv_aload_n hx hb dX7_rollback_75 rfl (lv_at hl 0 rfl) ?_
                  refine hx_getL S X (ci := 7) 0 (mW_0 _ _ _) rfl hin7 10 (by decide) (by decide +kernel) rfl dX7_rollback_76 ?_
                  refine lv_iload_n hx hb dX7_rollback_79 rfl (lv_at hl 3 rfl) ?_
                  refine mx_ld S X 9 (N := 24) (mW_9 _ _ _) (j := i) (by omega) (by decide) (x := (rbL σ (nI t) (nI (cnt σ t - 1)) i) 9 (i)) (rfl) dX7_rollback_80 ?_
                  refine lv_iload_n hx hb dX7_rollback_81 rfl (lv_at hl 2 rfl) ?_
                  refine lv_icmp_ne (tgt := 93) hx hb dX7_rollback_82 (by decide) (fun c82 => ?_) (fun c82 => ?_)
                  · skip
                    refine lv_aload_n hx hb dX7_rollback_93 rfl (lv_at hl 0 rfl) ?_
                    refine hx_getL S X (ci := 7) 0 (mW_0 _ _ _) rfl hin7 9 (by decide) (by decide +kernel) rfl dX7_rollback_94 ?_
                    refine lv_iload_n hx hb dX7_rollback_97 rfl (lv_at hl 3 rfl) ?_
                    refine lv_dup2_11 hx hb dX7_rollback_98 rfl rfl ?_
                    refine mx_ld S X 8 (N := 24) (mW_8 _ _ _) (j := i) (by omega) (by decide) (x := (rbL σ (nI t) (nI (cnt σ t - 1)) i) 8 (i)) (rfl) dX7_rollback_99 ?_
                    refine lv_iconst (v := 1) hx hb dX7_rollback_100 (by decide) ?_
                    refine lv_isub hx hb dX7_rollback_101 ?_
                    refine mx_st S X 8 (N := 24) (mW_8 _ _ _) (j := i) (by omega) (by decide) (x := ((rbL σ (nI t) (nI (cnt σ t - 1)) i) 8 (i)) - ((1 : Int32))) dX7_rollback_102 (mW_s8 _ _ _ _ _) (fun H locs X => ?_)
                    refine lv_iinc (v := nI (i + 1)) (lv' := [(3, .int (nI (i + 1))), (0, .ref (ad 0)), (1, .int (nI (t))), (2, .int (nI (cnt σ t - 1)))]) hx hb dX7_rollback_103 hl (k := 3) rfl (nI_add (i) 1) (by decide) rfl (fun ls hl => ?_)
                    refine lv_goto (tgt := 38) hx hb dX7_rollback_106 (by decide) ?_
                    exact ih (i + 1) (by omega) trivial _ _ _ (X.to (congrArg (mW G ad) (show _ = (rbL σ (nI t) (nI (cnt σ t - 1)) (i + 1)) from by rw [rbL, wif_t ⟨c52, c62, c72⟩, wif_f c82]))) (lv_sub hl [1, 2, 3, 0] rfl)
                  · skip
                    refine lv_aload_n hx hb dX7_rollback_85 rfl (lv_at hl 0 rfl) ?_
                    refine lv_iload_n hx hb dX7_rollback_86 rfl (lv_at hl 3 rfl) ?_
                    refine hx_Vv (rest := []) S X (c_X7_delete l G ad (rbL σ (nI t) (nI (cnt σ t - 1)) i) (i) (by omega)) gX7_rollback_X7_delete rfl (n := 1) (by decide +kernel) rfl ⟨(Nat.le_of_ble_eq_true rfl), (Nat.le_of_ble_eq_true rfl)⟩ (hx_recvL (q0 := 0) (ci := 7) X rfl (mW_0 _ _ _)) hl.1 rfl (Nat.le_of_ble_eq_true rfl) dX7_rollback_87 ⟨(Nat.le_of_ble_eq_true rfl), (Nat.le_of_ble_eq_true rfl)⟩ (fun wd1 H locs hp X => ?_)
                    obtain rfl := hp
                    refine lv_goto (tgt := 103) hx hb dX7_rollback_90 (by decide) ?_
                    refine lv_iinc (v := nI (i + 1)) (lv' := [(3, .int (nI (i + 1))), (0, .ref (ad 0)), (1, .int (nI (t))), (2, .int (nI (cnt σ t - 1)))]) hx hb dX7_rollback_103 hl (k := 3) rfl (nI_add (i) 1) (by decide) rfl (fun ls hl => ?_)
                    refine lv_goto (tgt := 38) hx hb dX7_rollback_106 (by decide) ?_
                    exact ih (i + 1) (by omega) trivial _ _ _ (X.to (congrArg (mW G ad) (show _ = (rbL σ (nI t) (nI (cnt σ t - 1)) (i + 1)) from by rw [rbL, wif_t ⟨c52, c62, c72⟩, wif_t c82]))) (lv_sub hl [1, 2, 3, 0] rfl)
        exact loop (nO σ) 0 (by omega) trivial _ _ _ X (lv_sub hl [2, 3, 1, 0] rfl)
    · skip
      have c18 := (nI_eq (a := cnt σ t - 1) (b := 0) (by omega) (by omega)).mp c18
      refine lv_ldc (v := -2000002) hx hb hown (hts (Cond.constant RX7 67 (-2000002)) (by decide +kernel)) dX7_rollback_21 ?_
      exact hx_iret S X hr hlk (Nat.le_of_ble_eq_true rfl) (Nat.le_of_ble_eq_true rfl) (by simp [M_rollback, wif_t, wif_f, h2', hct, c18]) dX7_rollback_23
  · skip
    refine hx_ei (hr2.2 h2) ?_
    refine lv_if_ne (tgt := 11) hx hb dX7_rollback_5 (by decide) (fun c9 => absurd (by decide) c9) (fun _ => ?_)
    refine lv_ldc (v := -2000001) hx hb hown (hts (Cond.constant RX7 66 (-2000001)) (by decide +kernel)) dX7_rollback_8 ?_
    exact hx_iret S X hr hlk (Nat.le_of_ble_eq_true rfl) (Nat.le_of_ble_eq_true rfl) (by simp [M_rollback, wif_t, wif_f, h2]) dX7_rollback_10
