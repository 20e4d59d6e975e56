/-! objects -/
def topF (σ : Sg) (th : Nat) : Nat := 8 * th + (dN σ th - 1)
theorem topF_div {σ : Sg} {th : Nat} (h8 : dN σ th ≤ 8) : topF σ th / 8 = th := by unfold topF; omega
theorem topF_mod {σ : Sg} {th : Nat} (h8 : dN σ th ≤ 8) : topF σ th % 8 = dN σ th - 1 := by unfold topF; omega
theorem topF_lt {σ : Sg} {th : Nat} (ht : th < 4) (h8 : dN σ th ≤ 8) : topF σ th < 32 := by unfold topF; omega
theorem topF_liv {σ : Sg} {th : Nat} (h0 : ¬ dN σ th = 0) (h8 : dN σ th ≤ 8) : liv σ (topF σ th) := by
  unfold liv
  rw [topF_div h8, topF_mod h8]
  omega
theorem isO_has {σ : Sg} (hI : Inv σ) {o : Nat} (ho : o < nO σ) (h : ¬ σ 6 o = 0) : isO σ (nI o) := ⟨o, ⟨ho, (hI.2.2.2.2.2 o ho).1.elim (fun q => absurd q h) id⟩, rfl⟩
theorem isO_not {σ : Sg} (hI : Inv σ) {o : Nat} (ho : o < nO σ) (h : σ 6 o = 0) : ¬ isO σ (nI o) := by
  rintro ⟨o2, ⟨h1, h2⟩, e⟩
  have h3 := hI.2.1.2
  have := (nI_eq (by omega) (by omega)).mp e
  subst this
  rw [h] at h2
  exact absurd h2 (by decide)
noncomputable def M_objectVersion (σ : Sg) (object : Int32) : Int32 × Sg := wif (isO σ object) (nI (oV σ (cN object)), σ) (-2000004, σ)
noncomputable def M_conversions (σ : Sg) (object : Int32) : Int32 × Sg := wif (isO σ object) (nI (oV σ (cN object) - oF σ (cN object)), σ) (-2000004, σ)
def cel (o v k : Nat) : Nat := 64 * o + 8 * v + k
noncomputable def M_peek (σ : Sg) (object field : Int32) : Int32 × Sg := wif (isO σ object) (wif (hasF (σ 1 (162 * oC σ (cN object) + (2 + oV σ (cN object)))) field) (σ 10 (cel (cN object) (oV σ (cN object)) (cN field)), σ) (-2000005, σ)) (-2000004, σ)
noncomputable def pbL (σ : Sg) (o : Int32) : Nat → Int32
  | 0 => -2000016
  | n + 1 => wif ((liv σ n ∧ pinB (σ 5 n) o) ∧ (pbL σ o n < 0 ∨ σ 4 n < pbL σ o n)) (σ 4 n) (pbL σ o n)
noncomputable def M_pinnedBy (σ : Sg) (object : Int32) : Int32 × Sg := wif (isO σ object) (pbL σ object 32, σ) (-2000004, σ)
def outP (σ : Sg) (type : Int32) (o : Nat) : Prop := ¬ σ 6 o = 0 ∧ σ 7 o = type ∧ ¬ σ 8 o = nI (cnt σ (cN type)) - 1
noncomputable def M_outdated (σ : Sg) (type : Int32) : Int32 × Sg := wif (isC σ type) (nI (cnp (outP σ type) (nO σ)), σ) (-2000001, σ)
def crS (σ : Sg) (f o : Nat) : Sg := mS (mS (mS (mS (mS σ 0 1 (nI (o + 1))) 6 o 1) 7 o (nI (fC σ f))) 8 o (nI (fV σ f))) 9 o (nI (fV σ f))
def crL (σ : Sg) (f o : Nat) : Nat → Sg
  | 0 => crS σ f o
  | n + 1 => mS (crL σ f o n) 10 (cel o (fV σ f) n) 0
theorem crL_k {σ : Sg} {f o : Nat} (n : Nat) {k : Nat} (h : k ≠ 10) (j : Nat) : crL σ f o n k j = crS σ f o k j := by
  induction n with
  | zero => rfl
  | succ n ih => rw [crL, mS_nk _ _ _ _ h, ih]
noncomputable def M_create (σ : Sg) (thread : Int32) : Int32 × Sg := wif (isT thread) (wif (dN σ (cN thread) = 0) (-2000006, σ) (wif (nO σ = 24) (-2000010, σ) (nI (nO σ), mS (crL σ (topF σ (cN thread)) (nO σ) 8) 5 (topF σ (cN thread)) (σ 5 (topF σ (cN thread)) ||| (1 : Int32) <<< (nI (nO σ) &&& 31))))) (-2000003, σ)
/-! conversions -/
def cpL (σ : Sg) (o to : Nat) : Nat → Sg
  | 0 => σ
  | n + 1 => mS (cpL σ o to n) 10 (cel o to n) (cpL σ o to n 10 (cel o (to - 1) n))
theorem cpL_k {σ : Sg} {o to : Nat} (n : Nat) {k : Nat} (h : k ≠ 10) (j : Nat) : cpL σ o to n k j = σ k j := by
  induction n with
  | zero => rfl
  | succ n ih => rw [cpL, mS_nk _ _ _ _ h, ih]
def stI (t v n : Nat) : Nat := 162 * t + (18 + 18 * v + 3 * n)
/-- a value times a factor, as the reference keeps it -/
def sclR (p : Int64) : Int32 := if 0 < lg_cmp p 1000000 then 1000001 else if lg_cmp p (-1000000) < 0 then -1000001 else p.toInt32
def stepS (s : Sg) (o to : Nat) (k a b : Int32) : Sg :=
  if k = 0 then mS s 10 (cel o to (cN a)) b
  else if k = 2 then mS s 10 (cel o to (cN b)) (s 10 (cel o to (cN a)))
  else if k = 3 then mS s 10 (cel o to (cN a)) (sclR ((s 10 (cel o to (cN a))).toInt64 * b.toInt64))
  else if k = 4 then mS s 10 (cel o to (cN b)) (s 10 (cel o to (cN b)) + s 10 (cel o to (cN a)))
  else s
theorem stepS_3 {s : Sg} {o to : Nat} {a b : Int32} : stepS s o to 3 a b = mS s 10 (cel o to (cN a)) (sclR ((s 10 (cel o to (cN a))).toInt64 * b.toInt64)) := by simp [stepS]
def chgF (k a b : Int32) : Nat := if k = 2 ∨ k = 4 then cN b else cN a
noncomputable def stS (σ : Sg) (o to t : Nat) : Nat → Bool × Sg
  | 0 => (true, cpL σ o to 8)
  | n + 1 => if (stS σ o to t n).1 = true then
      (wif (isVal (stepS (stS σ o to t n).2 o to (σ 1 (stI t to n)) (σ 1 (stI t to n + 1)) (σ 1 (stI t to n + 2)) 10 (cel o to (chgF (σ 1 (stI t to n)) (σ 1 (stI t to n + 1)) (σ 1 (stI t to n + 2)))))) true false,
       stepS (stS σ o to t n).2 o to (σ 1 (stI t to n)) (σ 1 (stI t to n + 1)) (σ 1 (stI t to n + 2)))
    else stS σ o to t n
theorem stepS_k {s : Sg} {o to : Nat} {a b c : Int32} {k : Nat} (h : k ≠ 10) (j : Nat) : stepS s o to a b c k j = s k j := by
  unfold stepS
  split
  · exact mS_nk _ _ _ _ h
  · split
    · exact mS_nk _ _ _ _ h
    · split
      · exact mS_nk _ _ _ _ h
      · split
        · exact mS_nk _ _ _ _ h
        · rfl
theorem stS_k {σ : Sg} {o to t : Nat} (n : Nat) {k : Nat} (h : k ≠ 10) (j : Nat) : (stS σ o to t n).2 k j = σ k j := by
  induction n with
  | zero => exact cpL_k 8 h j
  | succ n ih =>
    rw [stS]
    split
    · exact (stepS_k h j).trans ih
    · exact ih
theorem stS_stop {σ : Sg} {o to t i : Nat} (h : ¬ (stS σ o to t i).1 = true) (d : Nat) : stS σ o to t (i + d) = stS σ o to t i := by
  induction d with
  | zero => rfl
  | succ d ih => rw [← Nat.add_assoc, stS, ih, if_neg h]
theorem stS_yes {σ : Sg} {o to t i : Nat} {s' : Sg} (h : (stS σ o to t i).1 = true) (hs : stepS (stS σ o to t i).2 o to (σ 1 (stI t to i)) (σ 1 (stI t to i + 1)) (σ 1 (stI t to i + 2)) = s') (hv : isVal (s' 10 (cel o to (chgF (σ 1 (stI t to i)) (σ 1 (stI t to i + 1)) (σ 1 (stI t to i + 2)))))) : stS σ o to t (i + 1) = (true, s') := by
  rw [stS, if_pos h, hs, wif_t hv]
theorem stS_no {σ : Sg} {o to t i : Nat} {s' : Sg} (h : (stS σ o to t i).1 = true) (hs : stepS (stS σ o to t i).2 o to (σ 1 (stI t to i)) (σ 1 (stI t to i + 1)) (σ 1 (stI t to i + 2)) = s') (hv : ¬ isVal (s' 10 (cel o to (chgF (σ 1 (stI t to i)) (σ 1 (stI t to i + 1)) (σ 1 (stI t to i + 2)))))) : stS σ o to t (i + 1) = (false, s') := by
  rw [stS, if_pos h, hs, wif_f hv]
noncomputable def M_once (σ : Sg) (o to : Nat) : Bool × Sg := stS σ o to (oC σ o) (stp σ (oC σ o) to)
theorem M_once_k {σ : Sg} {o to k : Nat} (h : k ≠ 10) (j : Nat) : (M_once σ o to).2 k j = σ k j := stS_k _ h j
noncomputable def cvV (σ : Sg) (o v : Nat) : Nat → Bool × Sg
  | 0 => (true, σ)
  | n + 1 => if (cvV σ o v n).1 = true then M_once (cvV σ o v n).2 o (v + 1 + n) else cvV σ o v n
theorem cvV_k {σ : Sg} {o v : Nat} (n : Nat) {k : Nat} (h : k ≠ 10) (j : Nat) : (cvV σ o v n).2 k j = σ k j := by
  induction n with
  | zero => rfl
  | succ n ih =>
    rw [cvV]
    split
    · rw [M_once_k h, ih]
    · exact ih
theorem cvV_stop {σ : Sg} {o v i : Nat} (h : ¬ (cvV σ o v i).1 = true) (d : Nat) : cvV σ o v (i + d) = cvV σ o v i := by
  induction d with
  | zero => rfl
  | succ d ih => rw [← Nat.add_assoc, cvV, ih, if_neg h]
theorem cvV_go {σ : Sg} {o v i : Nat} (h : (cvV σ o v i).1 = true) : cvV σ o v (i + 1) = M_once (cvV σ o v i).2 o (v + 1 + i) := by rw [cvV, if_pos h]
noncomputable def M_convert (σ : Sg) (o to : Nat) : Bool × Sg :=
  if (cvV σ o (oV σ o) (to - oV σ o)).1 = true then (true, mS (cvV σ o (oV σ o) (to - oV σ o)).2 8 o (nI to)) else (false, mS (cvV σ o (oV σ o) (to - oV σ o)).2 8 o (nI (oV σ o)))
/-! access -/
def pinS (s : Sg) (f o : Nat) : Sg := mS s 5 f (s 5 f ||| (1 : Int32) <<< (nI o &&& 31))
noncomputable def M_acc (σ : Sg) (th o : Nat) (field : Int32) : Int32 × Sg :=
  wif (fC σ (topF σ th) = oC σ o) (wif (hasF (σ 1 (162 * oC σ o + (2 + fV σ (topF σ th)))) field) (wif (fV σ (topF σ th) < oV σ o) (-2000012, σ)
    (wif (oV σ o < fV σ (topF σ th)) (wif (∃ j, j < 32 ∧ helP σ (nI o) (nI (fV σ (topF σ th))) j) (-2000013, σ)
      (wif ((M_convert σ o (fV σ (topF σ th))).1 = true) (0, pinS (M_convert σ o (fV σ (topF σ th))).2 (topF σ th) o) (-2000014, (M_convert σ o (fV σ (topF σ th))).2))) (0, pinS σ (topF σ th) o))) (-2000005, σ)) (-2000011, σ)
noncomputable def M_access (σ : Sg) (thread object field : Int32) : Int32 × Sg := wif (isT thread) (wif (dN σ (cN thread) = 0) (-2000006, σ) (wif (isO σ object) (M_acc σ (cN thread) (cN object) field) (-2000004, σ))) (-2000003, σ)
noncomputable def M_read (σ : Sg) (thread object field : Int32) : Int32 × Sg := wif ((M_access σ thread object field).1 = 0) ((M_access σ thread object field).2 10 (cel (cN object) (oV (M_access σ thread object field).2 (cN object)) (cN field)), (M_access σ thread object field).2) (M_access σ thread object field)
noncomputable def M_write (σ : Sg) (thread object field value : Int32) : Int32 × Sg := wif (isVal value) (wif ((M_access σ thread object field).1 = 0) ((M_access σ thread object field).2 10 (cel (cN object) (oV (M_access σ thread object field).2 (cN object)) (cN field)), mS (M_access σ thread object field).2 10 (cel (cN object) (oV (M_access σ thread object field).2 (cN object)) (cN field)) value) (M_access σ thread object field)) (-2000007, σ)
theorem isB_ne {r : Int32} {P : Prop} (h : isB r P) (h0 : ¬ r = 0) : P := Classical.byContradiction fun q => h0 (h.2 q)
theorem isB_eq {r : Int32} {P : Prop} (h : isB r P) (h0 : r = 0) : ¬ P := fun q => absurd ((h.1 q).symm.trans h0) (by decide)
theorem InvC_of {σ s : Sg} (h : ∀ j, s 1 j = σ 1 j) {t : Nat} (hC : InvC σ t) : InvC s t := by
  unfold InvC cnt stp at hC ⊢
  simp only [h]
  exact hC
theorem oC_of {σ s : Sg} (h : ∀ j, s 7 j = σ 7 j) (o : Nat) : oC s o = oC σ o := by unfold oC; rw [h]
theorem cvV_pre {σ : Sg} {o v : Nat} (i : Nat) (h7 : σ 7 o = nI (oC σ o)) (h6 : oC σ o < 6) (hC : InvC σ (oC σ o)) : (cvV σ o v i).2 7 o = nI (oC (cvV σ o v i).2 o) ∧ oC (cvV σ o v i).2 o < 6 ∧ InvC (cvV σ o v i).2 (oC (cvV σ o v i).2 o) := by
  have e : oC (cvV σ o v i).2 o = oC σ o := oC_of (fun j => cvV_k i (by decide) j) o
  rw [e]
  exact ⟨(cvV_k i (by decide) o).trans h7, h6, InvC_of (fun j => cvV_k i (by decide) j) hC⟩
theorem M_convert_t {σ : Sg} {o to : Nat} (h : (cvV σ o (oV σ o) (to - oV σ o)).1 = true) : M_convert σ o to = (true, mS (cvV σ o (oV σ o) (to - oV σ o)).2 8 o (nI to)) := by rw [M_convert, if_pos h]
theorem M_convert_f {σ : Sg} {o to : Nat} (h : ¬ (cvV σ o (oV σ o) (to - oV σ o)).1 = true) : M_convert σ o to = (false, mS (cvV σ o (oV σ o) (to - oV σ o)).2 8 o (nI (oV σ o))) := by rw [M_convert, if_neg h]
theorem M_convert_k {σ : Sg} {o to k : Nat} (h8 : k ≠ 8) (h10 : k ≠ 10) (j : Nat) : (M_convert σ o to).2 k j = σ k j := by
  by_cases h : (cvV σ o (oV σ o) (to - oV σ o)).1 = true
  · rw [M_convert_t h]; exact (mS_nk _ _ _ _ h8).trans (cvV_k _ h10 j)
  · rw [M_convert_f h]; exact (mS_nk _ _ _ _ h8).trans (cvV_k _ h10 j)
/-- an access that goes through -/
theorem acc_ok {σ : Sg} (hI : Inv σ) {thread object field : Int32} (h : (M_access σ thread object field).1 = 0) :
    ∃ th o f : Nat, (th < 4 ∧ thread = nI th) ∧ (o < nO σ ∧ σ 6 o = 1 ∧ object = nI o) ∧ (f < 8 ∧ field = nI f) ∧ (¬ dN σ th = 0) ∧ fC σ (topF σ th) = oC σ o ∧ hasF (σ 1 (162 * oC σ o + (2 + fV σ (topF σ th)))) (nI f) ∧ ((M_access σ thread object field).2 8 o = nI (fV σ (topF σ th))) ∧ fV σ (topF σ th) < 8 := by
  have h6 := hI.1.2
  have h24 := hI.2.1.2
  by_cases c1 : isT thread
  case neg => rw [M_access, wif_f c1] at h; exact absurd (show (-2000003 : Int32) = 0 from h) (by decide)
  obtain ⟨th, hth, rfl⟩ := id c1
  have ct : cN (nI th) = th := nI_clamp (by omega)
  rw [M_access, wif_t c1, ct] at h ⊢
  by_cases c2 : dN σ th = 0
  case pos => rw [wif_t c2] at h; exact absurd (show (-2000006 : Int32) = 0 from h) (by decide)
  rw [wif_f c2] at h ⊢
  by_cases c3 : isO σ object
  case neg => rw [wif_f c3] at h; exact absurd (show (-2000004 : Int32) = 0 from h) (by decide)
  obtain ⟨o, ⟨ho, hex⟩, rfl⟩ := id c3
  have co : cN (nI o) = o := nI_clamp (by omega)
  rw [wif_t c3, co] at h ⊢
  obtain ⟨hd0, hd8⟩ := hI.2.2.2.1 th hth
  have hfr := topF_lt hth hd8
  obtain ⟨⟨g1, g2⟩, ⟨g3, g4⟩, -⟩ := hI.2.2.2.2.1 (topF σ th) hfr (topF_liv c2 hd8)
  obtain ⟨⟨o1, o2⟩, ⟨o3, o4⟩, -⟩ := (hI.2.2.2.2.2 o ho).2 hex
  have k8 := (hI.2.2.1 _ g2).1.2.2
  rw [M_acc] at h ⊢
  by_cases c4 : fC σ (topF σ th) = oC σ o
  case neg => rw [wif_f c4] at h; exact absurd (show (-2000011 : Int32) = 0 from h) (by decide)
  rw [wif_t c4] at h ⊢
  by_cases c5 : hasF (σ 1 (162 * oC σ o + (2 + fV σ (topF σ th)))) field
  case neg => rw [wif_f c5] at h; exact absurd (show (-2000005 : Int32) = 0 from h) (by decide)
  obtain ⟨⟨f, hf, rfl⟩, hbit⟩ := id c5
  rw [wif_t c5] at h ⊢
  by_cases c6 : fV σ (topF σ th) < oV σ o
  case pos => rw [wif_t c6] at h; exact absurd (show (-2000012 : Int32) = 0 from h) (by decide)
  rw [wif_f c6] at h ⊢
  refine ⟨th, o, f, ⟨hth, rfl⟩, ⟨ho, hex, rfl⟩, ⟨hf, rfl⟩, c2, c4, c5, ?_, by omega⟩
  by_cases c7 : oV σ o < fV σ (topF σ th)
  · rw [wif_t c7] at h ⊢
    by_cases c8 : ∃ j, j < 32 ∧ helP σ (nI o) (nI (fV σ (topF σ th))) j
    case pos => rw [wif_t c8] at h; exact absurd (show (-2000013 : Int32) = 0 from h) (by decide)
    rw [wif_f c8] at h ⊢
    by_cases c9 : (M_convert σ o (fV σ (topF σ th))).1 = true
    case neg => rw [wif_f c9] at h; exact absurd (show (-2000014 : Int32) = 0 from h) (by decide)
    rw [wif_t c9]
    show pinS (M_convert σ o (fV σ (topF σ th))).2 (topF σ th) o 8 o = _
    rw [pinS, mS_nk _ _ _ _ (by decide)]
    by_cases c : (cvV σ o (oV σ o) (fV σ (topF σ th) - oV σ o)).1 = true
    · rw [M_convert_t c]; exact mS_eq (cvV σ o (oV σ o) (fV σ (topF σ th) - oV σ o)).2 8 o (nI (fV σ (topF σ th)))
    · rw [M_convert_f c] at c9; exact absurd (show false = true from c9) (by decide)
  · rw [wif_f c7]
    show pinS σ (topF σ th) o 8 o = _
    rw [pinS, mS_nk _ _ _ _ (by decide), o3, show oV σ o = fV σ (topF σ th) by omega]
set_option maxRecDepth 100000 in
set_option maxHeartbeats 4000000 in
theorem c_X7_cell (l : Launch) (G : hG) (wd : va_W) (o v k : Nat)  : hMi l G yX7_cell wsX7_cell ({ frames := 0, cells := 0, slots := 0, locals := 0 } : Room) wd [.int (nI (o)), .int (nI (v)), .int (nI (k))] (fun r w => r = nI (cel o v k) ∧ w = wd) := by
  refine hMi.of (cc := cX7_cell) (maxL := 3) (some .int) RX7 rfl (by decide +kernel) rfl (Nat.le_of_ble_eq_true rfl) ?_
  intro p e s m args below meth c S hr hlk X ls hl
  have hx := S.1
  have hb := S.2.1
  have hown := S.2.2.2.1
  have hts := S.2.2.2.2
  have hl : lv_has ls 3 [(0, .int (nI (o))), (1, .int (nI (v))), (2, .int (nI (k)))] := hl
  refine lv_bipush (v := 64) hx hb dX7_cell_0 (by decide) ?_
  refine lv_iload_n hx hb dX7_cell_2 rfl (lv_at hl 0 rfl) ?_
  refine lv_imul hx hb dX7_cell_3 ?_
  refine hx_ei (show _ = nI ((64) * (o)) from pk_mul (64) (o)) ?_
  refine lv_bipush (v := 8) hx hb dX7_cell_4 (by decide) ?_
  refine lv_iload_n hx hb dX7_cell_6 rfl (lv_at hl 1 rfl) ?_
  refine lv_imul hx hb dX7_cell_7 ?_
  refine hx_ei (show _ = nI ((8) * (v)) from pk_mul (8) (v)) ?_
  refine lv_iadd hx hb dX7_cell_8 ?_
  refine hx_ei (show _ = nI ((64) * (o) + (8) * (v)) from nI_add ((64) * (o)) ((8) * (v))) ?_
  refine lv_iload_n hx hb dX7_cell_9 rfl (lv_at hl 2 rfl) ?_
  refine lv_iadd hx hb dX7_cell_10 ?_
  refine hx_ei (show _ = nI ((64) * (o) + (8) * (v) + k) from nI_add ((64) * (o) + (8) * (v)) (k)) ?_
  exact hx_iret S X hr hlk (Nat.le_of_ble_eq_true rfl) (Nat.le_of_ble_eq_true rfl) ⟨rfl, rfl⟩ dX7_cell_11

set_option maxRecDepth 100000 in
set_option maxHeartbeats 4000000 in
theorem c_X7_isObject (l : Launch) (G : hG) (ad : Nat → Nat) (σ : Sg) (x : Int32) (hI : Inv σ) : hMi l G yX7_isObject wsX7_isObject ({ frames := 1, cells := 0, slots := 0, locals := 22 } : Room) (mW G ad σ) [.ref (ad 0), .int (x)] (fun r w => isB r (isO σ x) ∧ w = (mW G ad σ)) := by
  refine hMi.of (cc := cX7_isObject) (maxL := 2) (some .boolean) RX7 rfl (by decide +kernel) rfl (Nat.le_of_ble_eq_true rfl) ?_
  intro p e s m args below meth c S hr hlk X ls hl
  have hx := S.1
  have hb := S.2.1
  have hown := S.2.2.2.1
  have hts := S.2.2.2.2
  have hl : lv_has ls 2 [(0, .ref (ad 0)), (1, .int (x))] := hl
  have hin7 : ∀ w ∈ wsX70, w ∈ wsX7_isObject := by decide +kernel
  have hC6 : nC σ ≤ 6 := hI.1.2
  have hO24 : nO σ ≤ 24 := hI.2.1.2
  refine lv_iload_n hx hb dX7_isObject_0 rfl (lv_at hl 1 rfl) ?_
  refine lv_iconst (v := 0) hx hb dX7_isObject_1 (by decide) ?_
  refine lv_aload_n hx hb dX7_isObject_2 rfl (lv_at hl 0 rfl) ?_
  refine hx_getL S X (ci := 7) 0 (mW_0 _ _ _) rfl hin7 6 (by decide) (by decide +kernel) rfl dX7_isObject_3 ?_
  refine hx_ei (show _ = nI (nO σ) from hI.2.1.1) ?_
  refine lv_iconst (v := 1) hx hb dX7_isObject_6 (by decide) ?_
  refine lv_isub hx hb dX7_isObject_7 ?_
  refine hx_ei (show _ = nI (nO σ) - 1 from rfl) ?_
  refine hx_Si (rest := []) S X (c_X7_in l G _ (x) ((0 : Int32)) (nI (nO σ) - 1)) gX7_isObject_X7_in rfl (n := 3) (by decide +kernel) rfl ⟨(Nat.le_of_ble_eq_true rfl), (Nat.le_of_ble_eq_true rfl)⟩ hl.1 rfl (Nat.le_of_ble_eq_true rfl) dX7_isObject_8 ⟨(Nat.le_of_ble_eq_true rfl), (Nat.le_of_ble_eq_true rfl)⟩ (fun r wd1 H locs hp X => ?_)
  obtain ⟨hr8, rfl⟩ := hp
  by_cases h8 : 0 ≤ x ∧ x ≤ nI (nO σ) - 1
  · skip
    refine hx_ei (hr8.1 h8) ?_
    obtain ⟨o, ho, rfl⟩ := (in_m1 (by omega) x).mp h8
    refine lv_if_eq (tgt := 27) hx hb dX7_isObject_11 (by decide) (fun c9 => absurd c9 (by decide)) (fun _ => ?_)
    refine lv_aload_n hx hb dX7_isObject_14 rfl (lv_at hl 0 rfl) ?_
    refine hx_getL S X (ci := 7) 0 (mW_0 _ _ _) rfl hin7 7 (by decide) (by decide +kernel) rfl dX7_isObject_15 ?_
    refine lv_iload_n hx hb dX7_isObject_18 rfl (lv_at hl 1 rfl) ?_
    refine mx_zld S X (j := o) (by omega) (x := σ 6 (o)) (rfl) dX7_isObject_19 ?_
    refine lv_if_eq (tgt := 27) hx hb dX7_isObject_20 (by decide) (fun c20 => ?_) (fun c20 => ?_)
    · skip
      refine lv_iconst (v := 0) hx hb dX7_isObject_27 (by decide) ?_
      exact hx_zret S X hr hlk (Nat.le_of_ble_eq_true rfl) (Nat.le_of_ble_eq_true rfl) (by decide) ⟨isB_f (isO_not hI ho c20) rfl, rfl⟩ dX7_isObject_28
    · skip
      refine lv_iconst (v := 1) hx hb dX7_isObject_23 (by decide) ?_
      refine lv_goto (tgt := 28) hx hb dX7_isObject_24 (by decide) ?_
      exact hx_zret S X hr hlk (Nat.le_of_ble_eq_true rfl) (Nat.le_of_ble_eq_true rfl) (by decide) ⟨isB_t (isO_has hI ho c20) rfl, rfl⟩ dX7_isObject_28
  · skip
    refine hx_ei (hr8.2 h8) ?_
    refine lv_if_eq (tgt := 27) hx hb dX7_isObject_11 (by decide) (fun _ => ?_) (fun c9 => absurd (by decide) c9)
    refine lv_iconst (v := 0) hx hb dX7_isObject_27 (by decide) ?_
    exact hx_zret S X hr hlk (Nat.le_of_ble_eq_true rfl) (Nat.le_of_ble_eq_true rfl) (by decide) ⟨isB_f (fun ⟨o, ⟨ho, _⟩, e⟩ => h8 ((in_m1 (by omega) x).mpr ⟨o, ho, e⟩)) rfl, rfl⟩ dX7_isObject_28

set_option maxRecDepth 100000 in
set_option maxHeartbeats 4000000 in
theorem c_X7_objectVersion (l : Launch) (G : hG) (ad : Nat → Nat) (σ : Sg) (object : Int32) (hI : Inv σ) : hMi l G yX7_objectVersion wsX7_objectVersion ({ frames := 2, cells := 0, slots := 0, locals := 43 } : Room) (mW G ad σ) [.ref (ad 0), .int (object)] (fun r w => r = (M_objectVersion σ object).1 ∧ w = mW G ad (M_objectVersion σ object).2) := by
  refine hMi.of (cc := cX7_objectVersion) (maxL := 2) (some .int) RX7 rfl (by decide +kernel) rfl (Nat.le_of_ble_eq_true rfl) ?_
  intro p e s m args below meth c S hr hlk X ls hl
  have hx := S.1
  have hb := S.2.1
  have hown := S.2.2.2.1
  have hts := S.2.2.2.2
  have hl : lv_has ls 2 [(0, .ref (ad 0)), (1, .int (object))] := hl
  have hin7 : ∀ w ∈ wsX70, w ∈ wsX7_objectVersion := by decide +kernel
  have hC6 : nC σ ≤ 6 := hI.1.2
  have hO24 : nO σ ≤ 24 := hI.2.1.2
  refine lv_aload_n hx hb dX7_objectVersion_0 rfl (lv_at hl 0 rfl) ?_
  refine lv_iload_n hx hb dX7_objectVersion_1 rfl (lv_at hl 1 rfl) ?_
  refine hx_Vi (rest := []) S X (c_X7_isObject l G ad σ (object) hI) gX7_objectVersion_X7_isObject rfl (n := 1) (by decide +kernel) rfl ⟨(Nat.le_of_ble_eq_true rfl), (Nat.le_of_ble_eq_true rfl)⟩ (hx_recvL (q0 := 0) (ci := 7) X rfl (mW_0 _ _ _)) hl.1 rfl (Nat.le_of_ble_eq_true rfl) dX7_objectVersion_2 ⟨(Nat.le_of_ble_eq_true rfl), (Nat.le_of_ble_eq_true rfl)⟩ (fun r wd1 H locs hp X => ?_)
  obtain ⟨hr2, rfl⟩ := hp
  by_cases h2 : isO σ (object)
  · skip
    refine hx_ei (hr2.1 h2) ?_
    have h2' := h2
    obtain ⟨o, ⟨ho, hex⟩, rfl⟩ := h2
    have hco : (nI o).toNatClampNeg = o := nI_clamp (by omega)
    obtain ⟨⟨ho0, ho1⟩, ⟨ho2, ho3⟩, ⟨ho4, ho5⟩, hov⟩ := (hI.2.2.2.2.2 o ho).2 hex
    have hk8 : cnt σ (oC σ o) ≤ 8 := (hI.2.2.1 _ ho1).1.2.2
    refine lv_if_eq (tgt := 17) hx hb dX7_objectVersion_5 (by decide) (fun c9 => absurd c9 (by decide)) (fun _ => ?_)
    refine lv_aload_n hx hb dX7_objectVersion_8 rfl (lv_at hl 0 rfl) ?_
    refine hx_getL S X (ci := 7) 0 (mW_0 _ _ _) rfl hin7 9 (by decide) (by decide +kernel) rfl dX7_objectVersion_9 ?_
    refine lv_iload_n hx hb dX7_objectVersion_12 rfl (lv_at hl 1 rfl) ?_
    refine mx_ld S X 8 (N := 24) (mW_8 _ _ _) (j := o) (by omega) (by decide) (x := nI (oV σ o)) (ho2) dX7_objectVersion_13 ?_
    refine lv_goto (tgt := 19) hx hb dX7_objectVersion_14 (by decide) ?_
    exact hx_iret S X hr hlk (Nat.le_of_ble_eq_true rfl) (Nat.le_of_ble_eq_true rfl) (by simp [M_objectVersion, wif_t, wif_f, h2', hco]) dX7_objectVersion_19
  · skip
    refine hx_ei (hr2.2 h2) ?_
    refine lv_if_eq (tgt := 17) hx hb dX7_objectVersion_5 (by decide) (fun _ => ?_) (fun c9 => absurd (by decide) c9)
    refine lv_ldc (v := -2000004) hx hb hown (hts (Cond.constant RX7 124 (-2000004)) (by decide +kernel)) dX7_objectVersion_17 ?_
    exact hx_iret S X hr hlk (Nat.le_of_ble_eq_true rfl) (Nat.le_of_ble_eq_true rfl) (by simp [M_objectVersion, wif_t, wif_f, h2]) dX7_objectVersion_19

set_option maxRecDepth 100000 in
set_option maxHeartbeats 4000000 in
theorem c_X7_conversions (l : Launch) (G : hG) (ad : Nat → Nat) (σ : Sg) (object : Int32) (hI : Inv σ) : hMi l G yX7_conversions wsX7_conversions ({ frames := 2, cells := 0, slots := 0, locals := 43 } : Room) (mW G ad σ) [.ref (ad 0), .int (object)] (fun r w => r = (M_conversions σ object).1 ∧ w = mW G ad (M_conversions σ object).2) := by
  refine hMi.of (cc := cX7_conversions) (maxL := 2) (some .int) RX7 rfl (by decide +kernel) rfl (Nat.le_of_ble_eq_true rfl) ?_
  intro p e s m args below meth c S hr hlk X ls hl
  have hx := S.1
  have hb := S.2.1
  have hown := S.2.2.2.1
  have hts := S.2.2.2.2
  have hl : lv_has ls 2 [(0, .ref (ad 0)), (1, .int (object))] := hl
  have hin7 : ∀ w ∈ wsX70, w ∈ wsX7_conversions := by decide +kernel
  have hC6 : nC σ ≤ 6 := hI.1.2
  have hO24 : nO σ ≤ 24 := hI.2.1.2
  refine lv_aload_n hx hb dX7_conversions_0 rfl (lv_at hl 0 rfl) ?_
  refine lv_iload_n hx hb dX7_conversions_1 rfl (lv_at hl 1 rfl) ?_
  refine hx_Vi (rest := []) S X (c_X7_isObject l G ad σ (object) hI) gX7_conversions_X7_isObject rfl (n := 1) (by decide +kernel) rfl ⟨(Nat.le_of_ble_eq_true rfl), (Nat.le_of_ble_eq_true rfl)⟩ (hx_recvL (q0 := 0) (ci := 7) X rfl (mW_0 _ _ _)) hl.1 rfl (Nat.le_of_ble_eq_true rfl) dX7_conversions_2 ⟨(Nat.le_of_ble_eq_true rfl), (Nat.le_of_ble_eq_true rfl)⟩ (fun r wd1 H locs hp X => ?_)
  obtain ⟨hr2, rfl⟩ := hp
  by_cases h2 : isO σ (object)
  · skip
    refine hx_ei (hr2.1 h2) ?_
    have h2' := h2
    obtain ⟨o, ⟨ho, hex⟩, rfl⟩ := h2
    have hco : (nI o).toNatClampNeg = o := nI_clamp (by omega)
    obtain ⟨⟨ho0, ho1⟩, ⟨ho2, ho3⟩, ⟨ho4, ho5⟩, hov⟩ := (hI.2.2.2.2.2 o ho).2 hex
    have hk8 : cnt σ (oC σ o) ≤ 8 := (hI.2.2.1 _ ho1).1.2.2
    refine lv_if_eq (tgt := 24) hx hb dX7_conversions_5 (by decide) (fun c9 => absurd c9 (by decide)) (fun _ => ?_)
    refine lv_aload_n hx hb dX7_conversions_8 rfl (lv_at hl 0 rfl) ?_
    refine hx_getL S X (ci := 7) 0 (mW_0 _ _ _) rfl hin7 9 (by decide) (by decide +kernel) rfl dX7_conversions_9 ?_
    refine lv_iload_n hx hb dX7_conversions_12 rfl (lv_at hl 1 rfl) ?_
    refine mx_ld S X 8 (N := 24) (mW_8 _ _ _) (j := o) (by omega) (by decide) (x := nI (oV σ o)) (ho2) dX7_conversions_13 ?_
    refine lv_aload_n hx hb dX7_conversions_14 rfl (lv_at hl 0 rfl) ?_
    refine hx_getL S X (ci := 7) 0 (mW_0 _ _ _) rfl hin7 10 (by decide) (by decide +kernel) rfl dX7_conversions_15 ?_
    refine lv_iload_n hx hb dX7_conversions_18 rfl (lv_at hl 1 rfl) ?_
    refine mx_ld S X 9 (N := 24) (mW_9 _ _ _) (j := o) (by omega) (by decide) (x := nI (oF σ o)) (ho4) dX7_conversions_19 ?_
    refine lv_isub hx hb dX7_conversions_20 ?_
    refine hx_ei (show _ = nI ((oV σ o) - (oF σ o)) from pk_sub (a := oV σ o) (b := oF σ o) (by omega)) ?_
    refine lv_goto (tgt := 26) hx hb dX7_conversions_21 (by decide) ?_
    exact hx_iret S X hr hlk (Nat.le_of_ble_eq_true rfl) (Nat.le_of_ble_eq_true rfl) (by simp [M_conversions, wif_t, wif_f, h2', hco]) dX7_conversions_26
  · skip
    refine hx_ei (hr2.2 h2) ?_
    refine lv_if_eq (tgt := 24) hx hb dX7_conversions_5 (by decide) (fun _ => ?_) (fun c9 => absurd (by decide) c9)
    refine lv_ldc (v := -2000004) hx hb hown (hts (Cond.constant RX7 124 (-2000004)) (by decide +kernel)) dX7_conversions_24 ?_
    exact hx_iret S X hr hlk (Nat.le_of_ble_eq_true rfl) (Nat.le_of_ble_eq_true rfl) (by simp [M_conversions, wif_t, wif_f, h2]) dX7_conversions_26

set_option maxRecDepth 100000 in
set_option maxHeartbeats 4000000 in
theorem c_X7_peek (l : Launch) (G : hG) (ad : Nat → Nat) (σ : Sg) (object field : Int32) (hI : Inv σ) : hMi l G yX7_peek wsX7_peek ({ frames := 2, cells := 0, slots := 0, locals := 43 } : Room) (mW G ad σ) [.ref (ad 0), .int (object), .int (field)] (fun r w => r = (M_peek σ object field).1 ∧ w = mW G ad (M_peek σ object field).2) := by
  refine hMi.of (cc := cX7_peek) (maxL := 4) (some .int) RX7 rfl (by decide +kernel) rfl (Nat.le_of_ble_eq_true rfl) ?_
  intro p e s m args below meth c S hr hlk X ls hl
  have hx := S.1
  have hb := S.2.1
  have hown := S.2.2.2.1
  have hts := S.2.2.2.2
  have hl : lv_has ls 4 [(0, .ref (ad 0)), (1, .int (object)), (2, .int (field))] := hl
  have hin7 : ∀ w ∈ wsX70, w ∈ wsX7_peek := by decide +kernel
  have hC6 : nC σ ≤ 6 := hI.1.2
  have hO24 : nO σ ≤ 24 := hI.2.1.2
  refine lv_aload_n hx hb dX7_peek_0 rfl (lv_at hl 0 rfl) ?_
  refine lv_iload_n hx hb dX7_peek_1 rfl (lv_at hl 1 rfl) ?_
  refine hx_Vi (rest := []) S X (c_X7_isObject l G ad σ (object) hI) gX7_peek_X7_isObject rfl (n := 1) (by decide +kernel) rfl ⟨(Nat.le_of_ble_eq_true rfl), (Nat.le_of_ble_eq_true rfl)⟩ (hx_recvL (q0 := 0) (ci := 7) X rfl (mW_0 _ _ _)) hl.1 rfl (Nat.le_of_ble_eq_true rfl) dX7_peek_2 ⟨(Nat.le_of_ble_eq_true rfl), (Nat.le_of_ble_eq_true rfl)⟩ (fun r wd1 H locs hp X => ?_)
  obtain ⟨hr2, rfl⟩ := hp
  by_cases h2 : isO σ (object)
  · skip
    refine hx_ei (hr2.1 h2) ?_
    have h2' := h2
    obtain ⟨o, ⟨ho, hex⟩, rfl⟩ := h2
    have hco : (nI o).toNatClampNeg = o := nI_clamp (by omega)
    obtain ⟨⟨ho0, ho1⟩, ⟨ho2, ho3⟩, ⟨ho4, ho5⟩, hov⟩ := (hI.2.2.2.2.2 o ho).2 hex
    have hk8 : cnt σ (oC σ o) ≤ 8 := (hI.2.2.1 _ ho1).1.2.2
    refine lv_if_ne (tgt := 11) hx hb dX7_peek_5 (by decide) (fun _ => ?_) (fun c9 => absurd c9 (by decide))
    refine lv_aload_n hx hb dX7_peek_11 rfl (lv_at hl 0 rfl) ?_
    refine hx_getL S X (ci := 7) 0 (mW_0 _ _ _) rfl hin7 9 (by decide) (by decide +kernel) rfl dX7_peek_12 ?_
    refine lv_iload_n hx hb dX7_peek_15 rfl (lv_at hl 1 rfl) ?_
    refine mx_ld S X 8 (N := 24) (mW_8 _ _ _) (j := o) (by omega) (by decide) (x := nI (oV σ o)) (ho2) dX7_peek_16 ?_
    refine lv_istore_n (lv' := [(3, .int (nI (oV σ o))), (0, .ref (ad 0)), (1, .int (nI (o))), (2, .int (field))]) hx hb dX7_peek_17 rfl hl (by decide) rfl (fun ls hl => ?_)
    refine lv_aload_n hx hb dX7_peek_18 rfl (lv_at hl 1 rfl) ?_
    refine lv_aload_n hx hb dX7_peek_19 rfl (lv_at hl 1 rfl) ?_
    refine hx_getL S X (ci := 7) 0 (mW_0 _ _ _) rfl hin7 8 (by decide) (by decide +kernel) rfl dX7_peek_20 ?_
    refine lv_iload_n hx hb dX7_peek_23 rfl (lv_at hl 2 rfl) ?_
    refine mx_ld S X 7 (N := 24) (mW_7 _ _ _) (j := o) (by omega) (by decide) (x := nI (oC σ o)) (ho0) dX7_peek_24 ?_
    refine lv_iconst (v := 2) hx hb dX7_peek_25 (by decide) ?_
    refine lv_iload_n hx hb dX7_peek_26 rfl (lv_at hl 0 rfl) ?_
    refine lv_iadd hx hb dX7_peek_27 ?_
    refine hx_ei (show _ = nI (2 + oV σ o) from nI_add (2) (oV σ o)) ?_
    refine hx_Vi (rest := []) S X (c_X7_of l G ad σ (oC σ o) (2 + oV σ o) (by omega)) gX7_peek_X7_of rfl (n := 2) (by decide +kernel) rfl ⟨(Nat.le_of_ble_eq_true rfl), (Nat.le_of_ble_eq_true rfl)⟩ (hx_recvL (q0 := 0) (ci := 7) X rfl (mW_0 _ _ _)) hl.1 rfl (Nat.le_of_ble_eq_true rfl) dX7_peek_28 ⟨(Nat.le_of_ble_eq_true rfl), (Nat.le_of_ble_eq_true rfl)⟩ (fun r wd1 H locs hp X => ?_)
    obtain ⟨rfl, rfl⟩ := hp
    refine hx_ei (show _ = σ 1 (162 * (oC σ o) + (2 + oV σ o)) from rfl) ?_
    refine lv_iload_n hx hb dX7_peek_31 rfl (lv_at hl 3 rfl) ?_
    refine hx_Si (rest := []) S X (c_X7_has l G _ (σ 1 (162 * (oC σ o) + (2 + oV σ o))) (field)) gX7_peek_X7_has rfl (n := 2) (by decide +kernel) rfl ⟨(Nat.le_of_ble_eq_true rfl), (Nat.le_of_ble_eq_true rfl)⟩ hl.1 rfl (Nat.le_of_ble_eq_true rfl) dX7_peek_32 ⟨(Nat.le_of_ble_eq_true rfl), (Nat.le_of_ble_eq_true rfl)⟩ (fun r wd1 H locs hp X => ?_)
    obtain ⟨hr32, rfl⟩ := hp
    by_cases h32 : hasF (σ 1 (162 * (oC σ o) + (2 + oV σ o))) (field)
    · skip
      refine hx_ei (hr32.1 h32) ?_
      have h32' := h32
      obtain ⟨⟨f, hf, rfl⟩, hbit⟩ := h32
      have hcf : (nI f).toNatClampNeg = f := nI_clamp (by omega)
      refine lv_if_eq (tgt := 52) hx hb dX7_peek_35 (by decide) (fun c9 => absurd c9 (by decide)) (fun _ => ?_)
      refine lv_aload_n hx hb dX7_peek_38 rfl (lv_at hl 1 rfl) ?_
      refine hx_getL S X (ci := 7) 0 (mW_0 _ _ _) rfl hin7 11 (by decide) (by decide +kernel) rfl dX7_peek_39 ?_
      refine lv_iload_n hx hb dX7_peek_42 rfl (lv_at hl 2 rfl) ?_
      refine lv_iload_n hx hb dX7_peek_43 rfl (lv_at hl 0 rfl) ?_
      refine lv_iload_n hx hb dX7_peek_44 rfl (lv_at hl 3 rfl) ?_
      refine hx_Si (rest := [.ref (ad 10)]) S X (c_X7_cell l G _ (o) (oV σ o) (f)) gX7_peek_X7_cell rfl (n := 3) (by decide +kernel) rfl ⟨(Nat.le_of_ble_eq_true rfl), (Nat.le_of_ble_eq_true rfl)⟩ hl.1 rfl (Nat.le_of_ble_eq_true rfl) dX7_peek_45 ⟨(Nat.le_of_ble_eq_true rfl), (Nat.le_of_ble_eq_true rfl)⟩ (fun r wd1 H locs hp X => ?_)
      obtain ⟨rfl, rfl⟩ := hp
      refine mx_ld S X 10 (N := 1536) (mW_10 _ _ _) (j := cel (o) (oV σ o) (f)) (by unfold cel; omega) (by decide) (x := σ 10 (cel (o) (oV σ o) (f))) (rfl) dX7_peek_48 ?_
      refine lv_goto (tgt := 54) hx hb dX7_peek_49 (by decide) ?_
      exact hx_iret S X hr hlk (Nat.le_of_ble_eq_true rfl) (Nat.le_of_ble_eq_true rfl) (by simp [M_peek, wif_t, wif_f, h2', hco, h32', hcf]) dX7_peek_54
    · skip
      refine hx_ei (hr32.2 h32) ?_
      refine lv_if_eq (tgt := 52) hx hb dX7_peek_35 (by decide) (fun _ => ?_) (fun c9 => absurd (by decide) c9)
      refine lv_ldc (v := -2000005) hx hb hown (hts (Cond.constant RX7 86 (-2000005)) (by decide +kernel)) dX7_peek_52 ?_
      exact hx_iret S X hr hlk (Nat.le_of_ble_eq_true rfl) (Nat.le_of_ble_eq_true rfl) (by simp [M_peek, wif_t, wif_f, h2', hco, h32]) dX7_peek_54
  · skip
    refine hx_ei (hr2.2 h2) ?_
    refine lv_if_ne (tgt := 11) hx hb dX7_peek_5 (by decide) (fun c9 => absurd (by decide) c9) (fun _ => ?_)
    refine lv_ldc (v := -2000004) hx hb hown (hts (Cond.constant RX7 124 (-2000004)) (by decide +kernel)) dX7_peek_8 ?_
    exact hx_iret S X hr hlk (Nat.le_of_ble_eq_true rfl) (Nat.le_of_ble_eq_true rfl) (by simp [M_peek, wif_t, wif_f, h2]) dX7_peek_10

set_option maxRecDepth 100000 in
set_option maxHeartbeats 4000000 in
theorem c_X7_pinnedBy (l : Launch) (G : hG) (ad : Nat → Nat) (σ : Sg) (object : Int32) (hI : Inv σ) : hMi l G yX7_pinnedBy wsX7_pinnedBy ({ frames := 2, cells := 0, slots := 0, locals := 43 } : Room) (mW G ad σ) [.ref (ad 0), .int (object)] (fun r w => r = (M_pinnedBy σ object).1 ∧ w = mW G ad (M_pinnedBy σ object).2) := by
  refine hMi.of (cc := cX7_pinnedBy) (maxL := 5) (some .int) RX7 rfl (by decide +kernel) rfl (Nat.le_of_ble_eq_true rfl) ?_
  intro p e s m args below meth c S hr hlk X ls hl
  have hx := S.1
  have hb := S.2.1
  have hown := S.2.2.2.1
  have hts := S.2.2.2.2
  have hl : lv_has ls 5 [(0, .ref (ad 0)), (1, .int (object))] := hl
  have hin7 : ∀ w ∈ wsX70, w ∈ wsX7_pinnedBy := by decide +kernel
  have hC6 : nC σ ≤ 6 := hI.1.2
  have hO24 : nO σ ≤ 24 := hI.2.1.2
  refine lv_aload_n hx hb dX7_pinnedBy_0 rfl (lv_at hl 0 rfl) ?_
  refine lv_iload_n hx hb dX7_pinnedBy_1 rfl (lv_at hl 1 rfl) ?_
  refine hx_Vi (rest := []) S X (c_X7_isObject l G ad σ (object) hI) gX7_pinnedBy_X7_isObject rfl (n := 1) (by decide +kernel) rfl ⟨(Nat.le_of_ble_eq_true rfl), (Nat.le_of_ble_eq_true rfl)⟩ (hx_recvL (q0 := 0) (ci := 7) X rfl (mW_0 _ _ _)) hl.1 rfl (Nat.le_of_ble_eq_true rfl) dX7_pinnedBy_2 ⟨(Nat.le_of_ble_eq_true rfl), (Nat.le_of_ble_eq_true rfl)⟩ (fun r wd1 H locs hp X => ?_)
  obtain ⟨hr2, rfl⟩ := hp
  by_cases h2 : isO σ (object)
  · skip
    refine hx_ei (hr2.1 h2) ?_
    have h2' := h2
    obtain ⟨o, ⟨ho, hex⟩, rfl⟩ := h2
    have hco : (nI o).toNatClampNeg = o := nI_clamp (by omega)
    obtain ⟨⟨ho0, ho1⟩, ⟨ho2, ho3⟩, ⟨ho4, ho5⟩, hov⟩ := (hI.2.2.2.2.2 o ho).2 hex
    have hk8 : cnt σ (oC σ o) ≤ 8 := (hI.2.2.1 _ ho1).1.2.2
    refine lv_if_ne (tgt := 11) hx hb dX7_pinnedBy_5 (by decide) (fun _ => ?_) (fun c9 => absurd c9 (by decide))
    refine lv_ldc (v := -2000016) hx hb hown (hts (Cond.constant RX7 138 (-2000016)) (by decide +kernel)) dX7_pinnedBy_11 ?_
    refine lv_istore_n (lv' := [(2, .int ((-2000016 : Int32))), (0, .ref (ad 0)), (1, .int (nI (o)))]) hx hb dX7_pinnedBy_13 rfl hl (by decide) rfl (fun ls hl => ?_)
    refine lv_iconst (v := 0) hx hb dX7_pinnedBy_14 (by decide) ?_
    refine lv_istore_n (lv' := [(3, .int ((0 : Int32))), (2, .int ((-2000016 : Int32))), (0, .ref (ad 0)), (1, .int (nI (o)))]) hx hb dX7_pinnedBy_15 rfl hl (by decide) rfl (fun ls hl => ?_)
    have loop : ∀ (n i : Nat) (y : Int32), i + n = 32 → y = pbL σ (nI o) i → ∀ (H : Heap) (locs : List Loc) (ls : Array Slot), hH G (va_A (mW G ad σ) s.heap.size) s.heap s (mW G ad σ) H locs → lv_has ls 5 [(0, .ref (ad 0)), (1, .int (nI (o))), (2, .int (y)), (3, .int (nI (i)))] → W p l e ({ frames := 2, cells := 0, slots := 0, locals := 43 } : Room) s m args below meth c H locs 0 0 (MQ below (va_Qi (fun r w => r = (M_pinnedBy σ (nI o)).1 ∧ w = mW G ad (M_pinnedBy σ (nI o)).2) (hB G (va_A (mW G ad σ) s.heap.size)) (va_A (mW G ad σ) s.heap.size)) args s 0 0 (va_A (mW G ad σ) s.heap.size)) (F0 m 16 ls []) := by
      intro n
      induction n with
      | zero =>
        intro i y hi hv H locs ls X hl
        have hi32 : i = 32 := by omega
        refine lv_iload_n hx hb dX7_pinnedBy_16 rfl (lv_at hl 3 rfl) ?_
        refine lv_bipush (v := 32) hx hb dX7_pinnedBy_17 (by decide) ?_
        refine lv_icmp_ge (tgt := 87) hx hb dX7_pinnedBy_19 (by decide) (fun _ => ?_) (fun c9 => absurd (nI_le (a := 32) (b := i) (by omega) (by omega)) c9)
        refine lv_iload_n hx hb dX7_pinnedBy_87 rfl (lv_at hl 2 rfl) ?_
        exact hx_iret S X hr hlk (Nat.le_of_ble_eq_true rfl) (Nat.le_of_ble_eq_true rfl) (by rw [hv, hi32]; simp [M_pinnedBy, wif_t, h2']) dX7_pinnedBy_88
      | succ n ih =>
        intro i y hi hv H locs ls X hl
        have hi32 : i < 32 := by omega
        refine lv_iload_n hx hb dX7_pinnedBy_16 rfl (lv_at hl 3 rfl) ?_
        refine lv_bipush (v := 32) hx hb dX7_pinnedBy_17 (by decide) ?_
        refine lv_icmp_ge (tgt := 87) hx hb dX7_pinnedBy_19 (by decide) (fun c9 => absurd c9 (nI_ge (a := i) (b := 32) (by omega) (by omega))) (fun _ => ?_)
        refine lv_aload_n hx hb dX7_pinnedBy_22 rfl (lv_at hl 0 rfl) ?_
        refine lv_iload_n hx hb dX7_pinnedBy_23 rfl (lv_at hl 3 rfl) ?_
        refine hx_Vi (rest := []) S X (c_X7_isThere l G ad σ (i) hI (by omega)) gX7_pinnedBy_X7_isThere rfl (n := 1) (by decide +kernel) rfl ⟨(Nat.le_of_ble_eq_true rfl), (Nat.le_of_ble_eq_true rfl)⟩ (hx_recvL (q0 := 0) (ci := 7) X rfl (mW_0 _ _ _)) hl.1 rfl (Nat.le_of_ble_eq_true rfl) dX7_pinnedBy_24 ⟨(Nat.le_of_ble_eq_true rfl), (Nat.le_of_ble_eq_true rfl)⟩ (fun r wd1 H locs hp X => ?_)
        obtain ⟨hr24, rfl⟩ := hp
        by_cases h24 : liv σ (i)
        · skip
          refine hx_ei (hr24.1 h24) ?_
          refine lv_if_eq (tgt := 48) hx hb dX7_pinnedBy_27 (by decide) (fun c9 => absurd c9 (by decide)) (fun _ => ?_)
          refine lv_aload_n hx hb dX7_pinnedBy_30 rfl (lv_at hl 0 rfl) ?_
          refine hx_getL S X (ci := 7) 0 (mW_0 _ _ _) rfl hin7 5 (by decide) (by decide +kernel) rfl dX7_pinnedBy_31 ?_
          refine lv_iload_n hx hb dX7_pinnedBy_34 rfl (lv_at hl 3 rfl) ?_
          refine mx_ld S X 5 (N := 32) (mW_5 _ _ _) (j := i) (by omega) (by decide) (x := σ 5 (i)) (rfl) dX7_pinnedBy_35 ?_
          refine lv_iload_n hx hb dX7_pinnedBy_36 rfl (lv_at hl 1 rfl) ?_
          refine lv_ishr hx hb dX7_pinnedBy_37 ?_
          refine lv_iconst (v := 1) hx hb dX7_pinnedBy_38 (by decide) ?_
          refine lv_iand hx hb dX7_pinnedBy_39 ?_
          refine lv_iconst (v := 1) hx hb dX7_pinnedBy_40 (by decide) ?_
          refine lv_icmp_ne (tgt := 48) hx hb dX7_pinnedBy_41 (by decide) (fun c41 => ?_) (fun c41 => ?_)
          · skip
            refine lv_iconst (v := 0) hx hb dX7_pinnedBy_48 (by decide) ?_
            refine lv_istore (lv' := [(4, .int ((0 : Int32))), (0, .ref (ad 0)), (1, .int (nI (o))), (2, .int (y)), (3, .int (nI (i)))]) hx hb dX7_pinnedBy_49 hl (by decide) rfl (fun ls hl => ?_)
            refine lv_iload hx hb dX7_pinnedBy_51 (lv_at hl 0 rfl) ?_
            refine lv_if_eq (tgt := 79) hx hb dX7_pinnedBy_53 (by decide) (fun _ => ?_) (fun c9 => absurd (by decide) c9)
            refine lv_iload_n hx hb dX7_pinnedBy_79 rfl (lv_at hl 3 rfl) ?_
            refine lv_istore_n (lv' := [(2, .int (y)), (4, .int ((0 : Int32))), (0, .ref (ad 0)), (1, .int (nI (o))), (3, .int (nI (i)))]) hx hb dX7_pinnedBy_80 rfl hl (by decide) rfl (fun ls hl => ?_)
            refine lv_iinc (v := nI (i + 1)) (lv' := [(3, .int (nI (i + 1))), (2, .int (y)), (4, .int ((0 : Int32))), (0, .ref (ad 0)), (1, .int (nI (o)))]) hx hb dX7_pinnedBy_81 hl (k := 4) rfl (nI_add (i) 1) (by decide) rfl (fun ls hl => ?_)
            refine lv_goto (tgt := 16) hx hb dX7_pinnedBy_84 (by decide) ?_
            exact ih (i + 1) (y) (by omega) (by rw [pbL, wif_f (fun q => c41 q.1.2)]; exact hv) _ _ _ X (lv_sub hl [3, 4, 1, 0] rfl)
          · skip
            refine lv_iconst (v := 1) hx hb dX7_pinnedBy_44 (by decide) ?_
            refine lv_goto (tgt := 49) hx hb dX7_pinnedBy_45 (by decide) ?_
            refine lv_istore (lv' := [(4, .int ((1 : Int32))), (0, .ref (ad 0)), (1, .int (nI (o))), (2, .int (y)), (3, .int (nI (i)))]) hx hb dX7_pinnedBy_49 hl (by decide) rfl (fun ls hl => ?_)
            refine lv_iload hx hb dX7_pinnedBy_51 (lv_at hl 0 rfl) ?_
            refine lv_if_eq (tgt := 79) hx hb dX7_pinnedBy_53 (by decide) (fun c9 => absurd c9 (by decide)) (fun _ => ?_)
            refine lv_iload_n hx hb dX7_pinnedBy_56 rfl (lv_at hl 3 rfl) ?_
            refine lv_if_lt (tgt := 70) hx hb dX7_pinnedBy_57 (by decide) (fun c57 => ?_) (fun c57 => ?_)
            · skip
              refine lv_aload_n hx hb dX7_pinnedBy_70 rfl (lv_at hl 1 rfl) ?_
              refine hx_getL S X (ci := 7) 0 (mW_0 _ _ _) rfl hin7 4 (by decide) (by decide +kernel) rfl dX7_pinnedBy_71 ?_
              refine lv_iload_n hx hb dX7_pinnedBy_74 rfl (lv_at hl 4 rfl) ?_
              refine mx_ld S X 4 (N := 32) (mW_4 _ _ _) (j := i) (by omega) (by decide) (x := σ 4 (i)) (rfl) dX7_pinnedBy_75 ?_
              refine lv_goto (tgt := 80) hx hb dX7_pinnedBy_76 (by decide) ?_
              refine lv_istore_n (lv' := [(2, .int (σ 4 (i))), (4, .int ((1 : Int32))), (0, .ref (ad 0)), (1, .int (nI (o))), (3, .int (nI (i)))]) hx hb dX7_pinnedBy_80 rfl hl (by decide) rfl (fun ls hl => ?_)
              refine lv_iinc (v := nI (i + 1)) (lv' := [(3, .int (nI (i + 1))), (2, .int (σ 4 (i))), (4, .int ((1 : Int32))), (0, .ref (ad 0)), (1, .int (nI (o)))]) hx hb dX7_pinnedBy_81 hl (k := 4) rfl (nI_add (i) 1) (by decide) rfl (fun ls hl => ?_)
              refine lv_goto (tgt := 16) hx hb dX7_pinnedBy_84 (by decide) ?_
              exact ih (i + 1) (σ 4 (i)) (by omega) (by rw [pbL, wif_t ⟨⟨h24, c41⟩, Or.inl (hv ▸ c57)⟩]) _ _ _ X (lv_sub hl [3, 4, 1, 0] rfl)
            · skip
              refine lv_aload_n hx hb dX7_pinnedBy_60 rfl (lv_at hl 1 rfl) ?_
              refine hx_getL S X (ci := 7) 0 (mW_0 _ _ _) rfl hin7 4 (by decide) (by decide +kernel) rfl dX7_pinnedBy_61 ?_
              refine lv_iload_n hx hb dX7_pinnedBy_64 rfl (lv_at hl 4 rfl) ?_
              refine mx_ld S X 4 (N := 32) (mW_4 _ _ _) (j := i) (by omega) (by decide) (x := σ 4 (i)) (rfl) dX7_pinnedBy_65 ?_
              refine lv_iload_n hx hb dX7_pinnedBy_66 rfl (lv_at hl 3 rfl) ?_
              refine lv_icmp_ge (tgt := 79) hx hb dX7_pinnedBy_67 (by decide) (fun c67 => ?_) (fun c67 => ?_)
              · skip
                refine lv_iload_n hx hb dX7_pinnedBy_79 rfl (lv_at hl 3 rfl) ?_
                refine lv_istore_n (lv' := [(2, .int (y)), (4, .int ((1 : Int32))), (0, .ref (ad 0)), (1, .int (nI (o))), (3, .int (nI (i)))]) hx hb dX7_pinnedBy_80 rfl hl (by decide) rfl (fun ls hl => ?_)
                refine lv_iinc (v := nI (i + 1)) (lv' := [(3, .int (nI (i + 1))), (2, .int (y)), (4, .int ((1 : Int32))), (0, .ref (ad 0)), (1, .int (nI (o)))]) hx hb dX7_pinnedBy_81 hl (k := 4) rfl (nI_add (i) 1) (by decide) rfl (fun ls hl => ?_)
                refine lv_goto (tgt := 16) hx hb dX7_pinnedBy_84 (by decide) ?_
                exact ih (i + 1) (y) (by omega) (by rw [pbL, wif_f (fun q => q.2.elim (fun z => c57 (hv ▸ z)) (fun z => absurd (hv ▸ z) (Int32.not_lt.mpr c67)))]; exact hv) _ _ _ X (lv_sub hl [3, 4, 1, 0] rfl)
              · skip
                refine lv_aload_n hx hb dX7_pinnedBy_70 rfl (lv_at hl 1 rfl) ?_
                refine hx_getL S X (ci := 7) 0 (mW_0 _ _ _) rfl hin7 4 (by decide) (by decide +kernel) rfl dX7_pinnedBy_71 ?_
                refine lv_iload_n hx hb dX7_pinnedBy_74 rfl (lv_at hl 4 rfl) ?_
                refine mx_ld S X 4 (N := 32) (mW_4 _ _ _) (j := i) (by omega) (by decide) (x := σ 4 (i)) (rfl) dX7_pinnedBy_75 ?_
                refine lv_goto (tgt := 80) hx hb dX7_pinnedBy_76 (by decide) ?_
                refine lv_istore_n (lv' := [(2, .int (σ 4 (i))), (4, .int ((1 : Int32))), (0, .ref (ad 0)), (1, .int (nI (o))), (3, .int (nI (i)))]) hx hb dX7_pinnedBy_80 rfl hl (by decide) rfl (fun ls hl => ?_)
                refine lv_iinc (v := nI (i + 1)) (lv' := [(3, .int (nI (i + 1))), (2, .int (σ 4 (i))), (4, .int ((1 : Int32))), (0, .ref (ad 0)), (1, .int (nI (o)))]) hx hb dX7_pinnedBy_81 hl (k := 4) rfl (nI_add (i) 1) (by decide) rfl (fun ls hl => ?_)
                refine lv_goto (tgt := 16) hx hb dX7_pinnedBy_84 (by decide) ?_
                exact ih (i + 1) (σ 4 (i)) (by omega) (by rw [pbL, wif_t ⟨⟨h24, c41⟩, Or.inr (hv ▸ Int32.not_le.mp c67)⟩]) _ _ _ X (lv_sub hl [3, 4, 1, 0] rfl)
        · skip
          refine hx_ei (hr24.2 h24) ?_
          refine lv_if_eq (tgt := 48) hx hb dX7_pinnedBy_27 (by decide) (fun _ => ?_) (fun c9 => absurd (by decide) c9)
          refine lv_iconst (v := 0) hx hb dX7_pinnedBy_48 (by decide) ?_
          refine lv_istore (lv' := [(4, .int ((0 : Int32))), (0, .ref (ad 0)), (1, .int (nI (o))), (2, .int (y)), (3, .int (nI (i)))]) hx hb dX7_pinnedBy_49 hl (by decide) rfl (fun ls hl => ?_)
          refine lv_iload hx hb dX7_pinnedBy_51 (lv_at hl 0 rfl) ?_
          refine lv_if_eq (tgt := 79) hx hb dX7_pinnedBy_53 (by decide) (fun _ => ?_) (fun c9 => absurd (by decide) c9)
          refine lv_iload_n hx hb dX7_pinnedBy_79 rfl (lv_at hl 3 rfl) ?_
          refine lv_istore_n (lv' := [(2, .int (y)), (4, .int ((0 : Int32))), (0, .ref (ad 0)), (1, .int (nI (o))), (3, .int (nI (i)))]) hx hb dX7_pinnedBy_80 rfl hl (by decide) rfl (fun ls hl => ?_)
          refine lv_iinc (v := nI (i + 1)) (lv' := [(3, .int (nI (i + 1))), (2, .int (y)), (4, .int ((0 : Int32))), (0, .ref (ad 0)), (1, .int (nI (o)))]) hx hb dX7_pinnedBy_81 hl (k := 4) rfl (nI_add (i) 1) (by decide) rfl (fun ls hl => ?_)
          refine lv_goto (tgt := 16) hx hb dX7_pinnedBy_84 (by decide) ?_
          exact ih (i + 1) (y) (by omega) (by rw [pbL, wif_f (fun q => h24 q.1.1)]; exact hv) _ _ _ X (lv_sub hl [3, 4, 1, 0] rfl)
    exact loop 32 0 (-2000016) (by omega) rfl _ _ _ X (lv_sub hl [2, 3, 1, 0] rfl)
  · skip
    refine hx_ei (hr2.2 h2) ?_
    refine lv_if_ne (tgt := 11) hx hb dX7_pinnedBy_5 (by decide) (fun c9 => absurd (by decide) c9) (fun _ => ?_)
    refine lv_ldc (v := -2000004) hx hb hown (hts (Cond.constant RX7 124 (-2000004)) (by decide +kernel)) dX7_pinnedBy_8 ?_
    exact hx_iret S X hr hlk (Nat.le_of_ble_eq_true rfl) (Nat.le_of_ble_eq_true rfl) (by simp [M_pinnedBy, wif_f, h2]) dX7_pinnedBy_10

set_option maxRecDepth 100000 in
set_option maxHeartbeats 4000000 in
theorem c_X7_outdated (l : Launch) (G : hG) (ad : Nat → Nat) (σ : Sg) (type : Int32) (hI : Inv σ) : hMi l G yX7_outdated wsX7_outdated ({ frames := 3, cells := 0, slots := 0, locals := 64 } : Room) (mW G ad σ) [.ref (ad 0), .int (type)] (fun r w => r = (M_outdated σ type).1 ∧ w = mW G ad (M_outdated σ type).2) := by
  refine hMi.of (cc := cX7_outdated) (maxL := 4) (some .int) RX7 rfl (by decide +kernel) rfl (Nat.le_of_ble_eq_true rfl) ?_
  intro p e s m args below meth c S hr hlk X ls hl
  have hx := S.1
  have hb := S.2.1
  have hown := S.2.2.2.1
  have hts := S.2.2.2.2
  have hl : lv_has ls 4 [(0, .ref (ad 0)), (1, .int (type))] := hl
  have hin7 : ∀ w ∈ wsX70, w ∈ wsX7_outdated := by decide +kernel
  have hC6 : nC σ ≤ 6 := hI.1.2
  have hO24 : nO σ ≤ 24 := hI.2.1.2
  refine lv_aload_n hx hb dX7_outdated_0 rfl (lv_at hl 0 rfl) ?_
  refine lv_iload_n hx hb dX7_outdated_1 rfl (lv_at hl 1 rfl) ?_
  refine hx_Vi (rest := []) S X (c_X7_isClass l G ad σ (type) hI) gX7_outdated_X7_isClass rfl (n := 1) (by decide +kernel) rfl ⟨(Nat.le_of_ble_eq_true rfl), (Nat.le_of_ble_eq_true rfl)⟩ (hx_recvL (q0 := 0) (ci := 7) X rfl (mW_0 _ _ _)) hl.1 rfl (Nat.le_of_ble_eq_true rfl) dX7_outdated_2 ⟨(Nat.le_of_ble_eq_true rfl), (Nat.le_of_ble_eq_true rfl)⟩ (fun r wd1 H locs hp X => ?_)
  obtain ⟨hr2, rfl⟩ := hp
  by_cases h2 : isC σ (type)
  · skip
    refine hx_ei (hr2.1 h2) ?_
    have h2' := h2
    obtain ⟨t, ht, rfl⟩ := h2
    have hct : (nI t).toNatClampNeg = t := nI_clamp (by omega)
    obtain ⟨⟨hk0, hk1, hk2⟩, hks, hkv⟩ := hI.2.2.1 t ht
    refine lv_if_ne (tgt := 11) hx hb dX7_outdated_5 (by decide) (fun _ => ?_) (fun c9 => absurd c9 (by decide))
    refine lv_iconst (v := 0) hx hb dX7_outdated_11 (by decide) ?_
    refine lv_istore_n (lv' := [(2, .int ((0 : Int32))), (0, .ref (ad 0)), (1, .int (nI (t)))]) hx hb dX7_outdated_12 rfl hl (by decide) rfl (fun ls hl => ?_)
    refine lv_iconst (v := 0) hx hb dX7_outdated_13 (by decide) ?_
    refine lv_istore_n (lv' := [(3, .int ((0 : Int32))), (2, .int ((0 : Int32))), (0, .ref (ad 0)), (1, .int (nI (t)))]) hx hb dX7_outdated_14 rfl hl (by decide) rfl (fun ls hl => ?_)
    have loop : ∀ (n i : Nat) (y : Nat), i + n = nO σ → y = cnp (outP σ (nI t)) i → ∀ (H : Heap) (locs : List Loc) (ls : Array Slot), hH G (va_A (mW G ad σ) s.heap.size) s.heap s (mW G ad σ) H locs → lv_has ls 4 [(0, .ref (ad 0)), (1, .int (nI (t))), (2, .int (nI (y))), (3, .int (nI (i)))] → W p l e ({ frames := 3, cells := 0, slots := 0, locals := 64 } : Room) s m args below meth c H locs 0 0 (MQ below (va_Qi (fun r w => r = (M_outdated σ (nI t)).1 ∧ w = mW G ad (M_outdated σ (nI t)).2) (hB G (va_A (mW G ad σ) s.heap.size)) (va_A (mW G ad σ) s.heap.size)) args s 0 0 (va_A (mW G ad σ) s.heap.size)) (F0 m 15 ls []) := by
      intro n
      induction n with
      | zero =>
        intro i y hi hv H locs ls X hl
        have hin : i = nO σ := by omega
        refine lv_iload_n hx hb dX7_outdated_15 rfl (lv_at hl 3 rfl) ?_
        refine lv_aload_n hx hb dX7_outdated_16 rfl (lv_at hl 0 rfl) ?_
        refine hx_getL S X (ci := 7) 0 (mW_0 _ _ _) rfl hin7 6 (by decide) (by decide +kernel) rfl dX7_outdated_17 ?_
        refine hx_ei (show _ = nI (nO σ) from hI.2.1.1) ?_
        refine lv_icmp_ge (tgt := 70) hx hb dX7_outdated_20 (by decide) (fun _ => ?_) (fun c9 => absurd (nI_le (a := nO σ) (b := i) (by omega) (by omega)) c9)
        refine lv_iload_n hx hb dX7_outdated_70 rfl (lv_at hl 2 rfl) ?_
        exact hx_iret S X hr hlk (Nat.le_of_ble_eq_true rfl) (Nat.le_of_ble_eq_true rfl) (by rw [hv, hin]; simp [M_outdated, wif_t, h2']) dX7_outdated_71
      | succ n ih =>
        intro i y hi hv H locs ls X hl
        have hin : i < nO σ := by omega
        refine lv_iload_n hx hb dX7_outdated_15 rfl (lv_at hl 3 rfl) ?_
        refine lv_aload_n hx hb dX7_outdated_16 rfl (lv_at hl 0 rfl) ?_
        refine hx_getL S X (ci := 7) 0 (mW_0 _ _ _) rfl hin7 6 (by decide) (by decide +kernel) rfl dX7_outdated_17 ?_
        refine hx_ei (show _ = nI (nO σ) from hI.2.1.1) ?_
        refine lv_icmp_ge (tgt := 70) hx hb dX7_outdated_20 (by decide) (fun c9 => absurd c9 (nI_ge (a := i) (b := nO σ) (by omega) (by omega))) (fun _ => ?_)
        refine lv_iload_n hx hb dX7_outdated_23 rfl (lv_at hl 2 rfl) ?_
        refine lv_aload_n hx hb dX7_outdated_24 rfl (lv_at hl 0 rfl) ?_
        refine hx_getL S X (ci := 7) 0 (mW_0 _ _ _) rfl hin7 7 (by decide) (by decide +kernel) rfl dX7_outdated_25 ?_
        refine lv_iload_n hx hb dX7_outdated_28 rfl (lv_at hl 3 rfl) ?_
        refine mx_zld S X (j := i) (by omega) (x := σ 6 (i)) (rfl) dX7_outdated_29 ?_
        refine lv_if_eq (tgt := 61) hx hb dX7_outdated_30 (by decide) (fun c30 => ?_) (fun c30 => ?_)
        · skip
          refine lv_iconst (v := 0) hx hb dX7_outdated_61 (by decide) ?_
          refine lv_iadd hx hb dX7_outdated_62 ?_
          refine hx_ei (show _ = nI (y + 0) from nI_add (y) (0)) ?_
          refine lv_istore_n (lv' := [(2, .int (nI (y + 0))), (0, .ref (ad 0)), (1, .int (nI (t))), (3, .int (nI (i)))]) hx hb dX7_outdated_63 rfl hl (by decide) rfl (fun ls hl => ?_)
          refine lv_iinc (v := nI (i + 1)) (lv' := [(3, .int (nI (i + 1))), (2, .int (nI (y + 0))), (0, .ref (ad 0)), (1, .int (nI (t)))]) hx hb dX7_outdated_64 hl (k := 3) rfl (nI_add (i) 1) (by decide) rfl (fun ls hl => ?_)
          refine lv_goto (tgt := 15) hx hb dX7_outdated_67 (by decide) ?_
          exact ih (i + 1) (y + 0) (by omega) (by rw [hv, Nat.add_zero, cnp_f (fun q => q.1 c30)]) _ _ _ X (lv_sub hl [2, 3, 1, 0] rfl)
        · skip
          refine lv_aload_n hx hb dX7_outdated_33 rfl (lv_at hl 0 rfl) ?_
          refine hx_getL S X (ci := 7) 0 (mW_0 _ _ _) rfl hin7 8 (by decide) (by decide +kernel) rfl dX7_outdated_34 ?_
          refine lv_iload_n hx hb dX7_outdated_37 rfl (lv_at hl 3 rfl) ?_
          refine mx_ld S X 7 (N := 24) (mW_7 _ _ _) (j := i) (by omega) (by decide) (x := σ 7 (i)) (rfl) dX7_outdated_38 ?_
          refine lv_iload_n hx hb dX7_outdated_39 rfl (lv_at hl 1 rfl) ?_
          refine lv_icmp_ne (tgt := 61) hx hb dX7_outdated_40 (by decide) (fun c40 => ?_) (fun c40 => ?_)
          · skip
            refine lv_iconst (v := 0) hx hb dX7_outdated_61 (by decide) ?_
            refine lv_iadd hx hb dX7_outdated_62 ?_
            refine hx_ei (show _ = nI (y + 0) from nI_add (y) (0)) ?_
            refine lv_istore_n (lv' := [(2, .int (nI (y + 0))), (0, .ref (ad 0)), (1, .int (nI (t))), (3, .int (nI (i)))]) hx hb dX7_outdated_63 rfl hl (by decide) rfl (fun ls hl => ?_)
            refine lv_iinc (v := nI (i + 1)) (lv' := [(3, .int (nI (i + 1))), (2, .int (nI (y + 0))), (0, .ref (ad 0)), (1, .int (nI (t)))]) hx hb dX7_outdated_64 hl (k := 3) rfl (nI_add (i) 1) (by decide) rfl (fun ls hl => ?_)
            refine lv_goto (tgt := 15) hx hb dX7_outdated_67 (by decide) ?_
            exact ih (i + 1) (y + 0) (by omega) (by rw [hv, Nat.add_zero, cnp_f (fun q => c40 q.2.1)]) _ _ _ X (lv_sub hl [2, 3, 1, 0] rfl)
          · skip
            refine lv_aload_n hx hb dX7_outdated_43 rfl (lv_at hl 0 rfl) ?_
            refine hx_getL S X (ci := 7) 0 (mW_0 _ _ _) rfl hin7 9 (by decide) (by decide +kernel) rfl dX7_outdated_44 ?_
            refine lv_iload_n hx hb dX7_outdated_47 rfl (lv_at hl 3 rfl) ?_
            refine mx_ld S X 8 (N := 24) (mW_8 _ _ _) (j := i) (by omega) (by decide) (x := σ 8 (i)) (rfl) dX7_outdated_48 ?_
            refine lv_aload_n hx hb dX7_outdated_49 rfl (lv_at hl 0 rfl) ?_
            refine lv_iload_n hx hb dX7_outdated_50 rfl (lv_at hl 1 rfl) ?_
            refine hx_Vi (rest := [.int (σ 8 (i)), .int (nI (y))]) S X (c_X7_current l G ad σ (t) (by omega)) gX7_outdated_X7_current rfl (n := 1) (by decide +kernel) rfl ⟨(Nat.le_of_ble_eq_true rfl), (Nat.le_of_ble_eq_true rfl)⟩ (hx_recvL (q0 := 0) (ci := 7) X rfl (mW_0 _ _ _)) hl.1 rfl (Nat.le_of_ble_eq_true rfl) dX7_outdated_51 ⟨(Nat.le_of_ble_eq_true rfl), (Nat.le_of_ble_eq_true rfl)⟩ (fun r wd1 H locs hp X => ?_)
            obtain ⟨rfl, rfl⟩ := hp
            refine hx_ei (show _ = nI (cnt σ t) - 1 from by rw [show σ 1 (162 * t + 0) = nI (cnt σ t) from hk0]) ?_
            refine lv_icmp_eq (tgt := 61) hx hb dX7_outdated_54 (by decide) (fun c54 => ?_) (fun c54 => ?_)
            · skip
              refine lv_iconst (v := 0) hx hb dX7_outdated_61 (by decide) ?_
              refine lv_iadd hx hb dX7_outdated_62 ?_
              refine hx_ei (show _ = nI (y + 0) from nI_add (y) (0)) ?_
              refine lv_istore_n (lv' := [(2, .int (nI (y + 0))), (0, .ref (ad 0)), (1, .int (nI (t))), (3, .int (nI (i)))]) hx hb dX7_outdated_63 rfl hl (by decide) rfl (fun ls hl => ?_)
              refine lv_iinc (v := nI (i + 1)) (lv' := [(3, .int (nI (i + 1))), (2, .int (nI (y + 0))), (0, .ref (ad 0)), (1, .int (nI (t)))]) hx hb dX7_outdated_64 hl (k := 3) rfl (nI_add (i) 1) (by decide) rfl (fun ls hl => ?_)
              refine lv_goto (tgt := 15) hx hb dX7_outdated_67 (by decide) ?_
              exact ih (i + 1) (y + 0) (by omega) (by rw [hv, Nat.add_zero, cnp_f (fun q => q.2.2 (by rw [show cN (nI t) = t from hct]; exact c54))]) _ _ _ X (lv_sub hl [2, 3, 1, 0] rfl)
            · skip
              refine lv_iconst (v := 1) hx hb dX7_outdated_57 (by decide) ?_
              refine lv_goto (tgt := 62) hx hb dX7_outdated_58 (by decide) ?_
              refine lv_iadd hx hb dX7_outdated_62 ?_
              refine hx_ei (show _ = nI (y + 1) from nI_add (y) (1)) ?_
              refine lv_istore_n (lv' := [(2, .int (nI (y + 1))), (0, .ref (ad 0)), (1, .int (nI (t))), (3, .int (nI (i)))]) hx hb dX7_outdated_63 rfl hl (by decide) rfl (fun ls hl => ?_)
              refine lv_iinc (v := nI (i + 1)) (lv' := [(3, .int (nI (i + 1))), (2, .int (nI (y + 1))), (0, .ref (ad 0)), (1, .int (nI (t)))]) hx hb dX7_outdated_64 hl (k := 3) rfl (nI_add (i) 1) (by decide) rfl (fun ls hl => ?_)
              refine lv_goto (tgt := 15) hx hb dX7_outdated_67 (by decide) ?_
              exact ih (i + 1) (y + 1) (by omega) (by rw [hv, cnp_t ⟨c30, c40, by rw [show cN (nI t) = t from hct]; exact c54⟩]) _ _ _ X (lv_sub hl [2, 3, 1, 0] rfl)
    exact loop (nO σ) 0 0 (by omega) rfl _ _ _ X (lv_sub hl [2, 3, 1, 0] rfl)
  · skip
    refine hx_ei (hr2.2 h2) ?_
    refine lv_if_ne (tgt := 11) hx hb dX7_outdated_5 (by decide) (fun c9 => absurd (by decide) c9) (fun _ => ?_)
    refine lv_ldc (v := -2000001) hx hb hown (hts (Cond.constant RX7 66 (-2000001)) (by decide +kernel)) dX7_outdated_8 ?_
    exact hx_iret S X hr hlk (Nat.le_of_ble_eq_true rfl) (Nat.le_of_ble_eq_true rfl) (by simp [M_outdated, wif_f, h2]) dX7_outdated_10
