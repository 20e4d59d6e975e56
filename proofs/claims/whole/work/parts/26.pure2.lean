/-! the reference's steps and the system's, side by side -/
theorem isVal_i (x : Int32) : isVal x ↔ -1000000 ≤ x.toInt ∧ x.toInt ≤ 1000000 := by
  unfold isVal
  rw [i_le, i_le, show (-1000000 : Int32).toInt = -1000000 by decide, show (1000000 : Int32).toInt = 1000000 by decide]
theorem isVL_i (p : Int64) : isVL p ↔ -1000000 ≤ p.toInt ∧ p.toInt ≤ 1000000 := by
  unfold isVL
  rw [i_le64, i_le64, show (-1000000 : Int64).toInt = -1000000 by decide, show (1000000 : Int64).toInt = 1000000 by decide]
theorem to32_i {p : Int64} (h : isVL p) : p.toInt32.toInt = p.toInt := by
  have h := (isVL_i p).mp h
  rw [Int64.toInt_toInt32]
  exact Int.bmod_eq_of_le (by omega) (by omega)
theorem to32_of (x : Int32) : x.toInt64.toInt32 = x := by simp
theorem sum64 {x y : Int32} (hx : isVal x) (hy : isVal y) : (x.toInt64 + y.toInt64).toInt = x.toInt + y.toInt := by
  have hx := (isVal_i x).mp hx
  have hy := (isVal_i y).mp hy
  rw [Int64.toInt_add, Int32.toInt_toInt64, Int32.toInt_toInt64]
  exact Int.bmod_eq_of_le (by omega) (by omega)
theorem sum32 {x y : Int32} (hx : isVal x) (hy : isVal y) : (x + y).toInt = x.toInt + y.toInt := by
  have hx := (isVal_i x).mp hx
  have hy := (isVal_i y).mp hy
  rw [Int32.toInt_add]
  exact Int.bmod_eq_of_le (by omega) (by omega)
theorem sum_val {x y : Int32} (hx : isVal x) (hy : isVal y) : isVL (x.toInt64 + y.toInt64) ↔ isVal (x + y) := by
  rw [isVL_i, isVal_i, sum64 hx hy, sum32 hx hy]
theorem sum_eq {x y : Int32} (hx : isVal x) (hy : isVal y) (h : isVL (x.toInt64 + y.toInt64)) : (x.toInt64 + y.toInt64).toInt32 = x + y := by
  apply Int32.toInt_inj.mp
  rw [to32_i h, sum64 hx hy, sum32 hx hy]
theorem scl_val (p : Int64) : isVal (sclR p) ↔ isVL p := by
  unfold sclR
  by_cases h : 0 < lg_cmp p 1000000
  · rw [if_pos h]
    have h2 := (lc_gt p 1000000).mp h
    rw [i_lt64, show (1000000 : Int64).toInt = 1000000 by decide] at h2
    rw [isVL_i]
    exact ⟨fun q => absurd q (by rw [isVal_i, show (1000001 : Int32).toInt = 1000001 by decide]; omega), fun q => by omega⟩
  · rw [if_neg h]
    by_cases h1 : lg_cmp p (-1000000) < 0
    · rw [if_pos h1]
      have h2 := (lc_lt p (-1000000)).mp h1
      rw [i_lt64, show (-1000000 : Int64).toInt = -1000000 by decide] at h2
      rw [isVL_i]
      exact ⟨fun q => absurd q (by rw [isVal_i, show (-1000001 : Int32).toInt = -1000001 by decide]; omega), fun q => by omega⟩
    · rw [if_neg h1]
      have h2 : isVL p := by
        rw [isVL_i]
        have a := (not_congr (lc_gt p 1000000)).mp h
        have b := (not_congr (lc_lt p (-1000000))).mp h1
        rw [i_lt64, show (1000000 : Int64).toInt = 1000000 by decide] at a
        rw [i_lt64, show (-1000000 : Int64).toInt = -1000000 by decide] at b
        omega
      refine ⟨fun _ => h2, fun _ => ?_⟩
      rw [isVal_i, to32_i h2]
      exact (isVL_i p).mp h2
theorem scl_eq {p : Int64} (h : isVL p) : sclR p = p.toInt32 := by
  have h2 := (isVL_i p).mp h
  unfold sclR
  rw [if_neg (fun q => by have := (lc_gt p 1000000).mp q; rw [i_lt64, show (1000000 : Int64).toInt = 1000000 by decide] at this; omega), if_neg (fun q => by have := (lc_lt p (-1000000)).mp q; rw [i_lt64, show (-1000000 : Int64).toInt = -1000000 by decide] at this; omega)]
/-- a row of the system and the reference's cells of it -/
def rowR (s : Sg) (o v : Nat) (row : Nat → Int32) : Prop := ∀ k, k < 8 → row k = s 10 (cel o v k) ∧ isVal (row k)
theorem m10 (s : Sg) (o v k j : Nat) (x : Int32) : mS s 10 (cel o v k) x 10 (cel o v j) = if j = k then x else s 10 (cel o v j) := by
  rw [mk1]
  by_cases h : j = k
  · rw [if_pos h, if_pos (by rw [h])]
  · rw [if_neg h, if_neg (by unfold cel; omega)]
theorem rowR_put {s : Sg} {o v : Nat} {row : Nat → Int32} (h : rowR s o v row) {t : Nat} {x y : Int32} (e : x = y) (hx : isVal x) : rowR (mS s 10 (cel o v t) y) o v (upd row t x) := by
  intro k hk
  rw [m10, upd]
  by_cases c : k = t
  · rw [if_pos c, if_pos c]; exact ⟨e, hx⟩
  · rw [if_neg c, if_neg c]; exact h k hk
theorem put_t {row : Nat → Int32} {t : Nat} {p : Int64} (h : isVL p) : putX row t p = (true, upd row t p.toInt32) := by rw [putX, wif_t h]
theorem put_f {row : Nat → Int32} {t : Nat} {p : Int64} (h : ¬ isVL p) : putX row t p = (false, row) := by rw [putX, wif_f h]
theorem step_rel {s : Sg} {o v : Nat} {row : Nat → Int32} (h : rowR s o v row) {k a b : Int32} (hok : okSt k a b) :
    ((stepX k a b row).1 = true ↔ isVal (stepS s o v k a b 10 (cel o v (chgF k a b)))) ∧ ((stepX k a b row).1 = true → rowR (stepS s o v k a b) o v (stepX k a b row).2) := by
  obtain ⟨⟨fa, hfa, rfl⟩, h2⟩ := hok
  have ca : cN (nI fa) = fa := nI_clamp (by omega)
  rcases h2 with ⟨rfl, hb⟩ | rfl | ⟨rfl, fb, hfb, rfl⟩ | ⟨rfl, hb1, hb2⟩ | ⟨rfl, fb, hfb, rfl⟩
  · have e1 : stepX 0 (nI fa) b row = putX row fa b.toInt64 := by rw [stepX, if_pos rfl, ca]
    have e2 : stepS s o v 0 (nI fa) b = mS s 10 (cel o v fa) b := by rw [stepS, if_pos rfl, ca]
    have e3 : chgF 0 (nI fa) b = fa := by simp [chgF, ca]
    have hv := (isVL_iff b).mpr hb
    rw [e1, e2, e3, put_t hv, m10, if_pos rfl, to32_of]
    exact ⟨⟨fun _ => hb, fun _ => rfl⟩, fun _ => rowR_put h rfl hb⟩
  · have e1 : stepX 1 (nI fa) b row = (true, row) := by simp [stepX]
    have e2 : stepS s o v 1 (nI fa) b = s := by simp [stepS]
    have e3 : chgF 1 (nI fa) b = fa := by simp [chgF, ca]
    rw [e1, e2, e3, ← (h fa hfa).1]
    exact ⟨⟨fun _ => (h fa hfa).2, fun _ => rfl⟩, fun _ => h⟩
  · have cb : cN (nI fb) = fb := nI_clamp (by omega)
    have e1 : stepX 2 (nI fa) (nI fb) row = putX row fb (row fa).toInt64 := by simp [stepX, ca, cb]
    have e2 : stepS s o v 2 (nI fa) (nI fb) = mS s 10 (cel o v fb) (s 10 (cel o v fa)) := by simp [stepS, ca, cb]
    have e3 : chgF 2 (nI fa) (nI fb) = fb := by simp [chgF, cb]
    obtain ⟨r1, r2⟩ := h fa hfa
    rw [e1, e2, e3, put_t ((isVL_iff _).mpr r2), m10, if_pos rfl, ← r1, to32_of]
    exact ⟨⟨fun _ => r2, fun _ => rfl⟩, fun _ => rowR_put h rfl r2⟩
  · have e1 : stepX 3 (nI fa) b row = putX row fa ((row fa).toInt64 * b.toInt64) := by simp [stepX, ca]
    have e2 : stepS s o v 3 (nI fa) b = mS s 10 (cel o v fa) (sclR ((s 10 (cel o v fa)).toInt64 * b.toInt64)) := by rw [stepS_3, ca]
    have e3 : chgF 3 (nI fa) b = fa := by simp [chgF, ca]
    obtain ⟨r1, r2⟩ := h fa hfa
    rw [e1, e2, e3, m10, if_pos rfl, ← r1, scl_val]
    by_cases c : isVL ((row fa).toInt64 * b.toInt64)
    · rw [put_t c]
      refine ⟨⟨fun _ => c, fun _ => rfl⟩, fun _ => rowR_put h (scl_eq c).symm ?_⟩
      rw [← scl_eq c]
      exact (scl_val _).mpr c
    · rw [put_f c]
      exact ⟨⟨fun q => absurd q (by simp), fun q => absurd q c⟩, fun q => absurd q (by simp)⟩
  · have cb : cN (nI fb) = fb := nI_clamp (by omega)
    have e1 : stepX 4 (nI fa) (nI fb) row = putX row fb ((row fb).toInt64 + (row fa).toInt64) := by simp [stepX, ca, cb]
    have e2 : stepS s o v 4 (nI fa) (nI fb) = mS s 10 (cel o v fb) (s 10 (cel o v fb) + s 10 (cel o v fa)) := by simp [stepS, ca, cb]
    have e3 : chgF 4 (nI fa) (nI fb) = fb := by simp [chgF, cb]
    obtain ⟨r1, r2⟩ := h fa hfa
    obtain ⟨t1, t2⟩ := h fb hfb
    rw [e1, e2, e3, m10, if_pos rfl, ← r1, ← t1, ← sum_val t2 r2]
    by_cases c : isVL ((row fb).toInt64 + (row fa).toInt64)
    · rw [put_t c]
      refine ⟨⟨fun _ => c, fun _ => rfl⟩, fun _ => rowR_put h (sum_eq t2 r2 c) ?_⟩
      rw [sum_eq t2 r2 c]
      exact (sum_val t2 r2).mp c
    · rw [put_f c]
      exact ⟨⟨fun q => absurd q (by simp), fun q => absurd q c⟩, fun q => absurd q (by simp)⟩
theorem stepS_far {s : Sg} {o v : Nat} {k a b : Int32} (hok : okSt k a b) {j : Nat} (hj : j < 64 * o + 8 * v ∨ 64 * o + 8 * v + 8 ≤ j) : stepS s o v k a b 10 j = s 10 j := by
  obtain ⟨⟨fa, hfa, rfl⟩, h2⟩ := hok
  have ca : cN (nI fa) = fa := nI_clamp (by omega)
  rcases h2 with ⟨rfl, hb⟩ | rfl | ⟨rfl, fb, hfb, rfl⟩ | ⟨rfl, hb1, hb2⟩ | ⟨rfl, fb, hfb, rfl⟩
  · rw [stepS, if_pos rfl, mk1, ca, if_neg (by unfold cel; omega)]
  · rw [show stepS s o v 1 (nI fa) b = s by simp [stepS]]
  · have cb : cN (nI fb) = fb := nI_clamp (by omega)
    rw [show stepS s o v 2 (nI fa) (nI fb) = mS s 10 (cel o v fb) (s 10 (cel o v fa)) by simp [stepS, ca, cb], mk1, if_neg (by unfold cel; omega)]
  · rw [stepS_3, ca, mk1, if_neg (by unfold cel; omega)]
  · have cb : cN (nI fb) = fb := nI_clamp (by omega)
    rw [show stepS s o v 4 (nI fa) (nI fb) = mS s 10 (cel o v fb) (s 10 (cel o v fb) + s 10 (cel o v fa)) by simp [stepS, ca, cb], mk1, if_neg (by unfold cel; omega)]
theorem cpL_at {s : Sg} {o to : Nat} (hto : 1 ≤ to) : ∀ n, n ≤ 8 → ∀ j, cpL s o to n 10 j = if 64 * o + 8 * to ≤ j ∧ j < 64 * o + 8 * to + n then s 10 (j - 8) else s 10 j := by
  intro n
  induction n with
  | zero => intro _ j; rw [if_neg (by omega)]; rfl
  | succ n ih =>
    intro hn j
    have ih := ih (by omega)
    rw [cpL, mk1]
    by_cases h : j = cel o to n
    · rw [if_pos h, ih, if_neg (by unfold cel; omega), if_pos (by unfold cel at h; omega)]
      unfold cel at h ⊢
      rw [show 64 * o + 8 * (to - 1) + n = j - 8 by omega]
    · rw [if_neg h, ih]
      unfold cel at h
      by_cases h2 : 64 * o + 8 * to ≤ j ∧ j < 64 * o + 8 * to + n
      · rw [if_pos h2, if_pos (by omega)]
      · rw [if_neg h2, if_neg (by omega)]
/-- the steps of one version -/
theorem once_rel {s : Sg} {o to C : Nat} {row : Nat → Int32} (hto : 1 ≤ to) (h : ∀ k, k < 8 → row k = s 10 (cel o (to - 1) k) ∧ isVal (row k)) {N : Nat} (hok : ∀ n, n < N → okSt (s 1 (stI C to n)) (s 1 (stI C to n + 1)) (s 1 (stI C to n + 2))) : ∀ n, n ≤ N →
    (apX (fun n => s 1 (stI C to n)) (fun n => s 1 (stI C to n + 1)) (fun n => s 1 (stI C to n + 2)) row n).1 = (stS s o to C n).1 ∧
    ((stS s o to C n).1 = true → rowR (stS s o to C n).2 o to (apX (fun n => s 1 (stI C to n)) (fun n => s 1 (stI C to n + 1)) (fun n => s 1 (stI C to n + 2)) row n).2) ∧
    (∀ j, (j < 64 * o + 8 * to ∨ 64 * o + 8 * to + 8 ≤ j) → (stS s o to C n).2 10 j = s 10 j) := by
  intro n
  induction n with
  | zero =>
    intro _
    refine ⟨rfl, fun _ k hk => ?_, fun j hj => ?_⟩
    · show row k = cpL s o to 8 10 (cel o to k) ∧ isVal (row k)
      rw [cpL_at hto 8 (by decide), if_pos (by unfold cel; omega)]
      refine ⟨?_, (h k hk).2⟩
      rw [(h k hk).1]
      unfold cel
      rw [show 64 * o + 8 * (to - 1) + k = 64 * o + 8 * to + k - 8 by omega]
    · show cpL s o to 8 10 j = _
      rw [cpL_at hto 8 (by decide), if_neg (by omega)]
  | succ n ih =>
    intro hn
    obtain ⟨i1, i2, i3⟩ := ih (by omega)
    have hk := hok n (by omega)
    by_cases c : (stS s o to C n).1 = true
    · have hr := i2 c
      obtain ⟨s1, s2⟩ := step_rel hr hk
      rw [apX_go (by rw [i1]; exact c)]
      rw [stS, if_pos c]
      refine ⟨?_, fun hw => ?_, fun j hj => ?_⟩
      · by_cases v : isVal (stepS (stS s o to C n).2 o to (s 1 (stI C to n)) (s 1 (stI C to n + 1)) (s 1 (stI C to n + 2)) 10 (cel o to (chgF (s 1 (stI C to n)) (s 1 (stI C to n + 1)) (s 1 (stI C to n + 2)))))
        · rw [wif_t v]; exact s1.mpr v
        · rw [wif_f v]
          exact Bool.eq_false_iff.mpr (fun q => v (s1.mp q))
      · refine s2 (s1.mpr ?_)
        exact Classical.byContradiction (fun v => by rw [wif_f v] at hw; exact absurd hw (by simp))
      · exact (stepS_far hk hj).trans (i3 j hj)
    · rw [apX_stop (by rw [i1]; exact c) 1, stS_stop c 1]
      exact ⟨i1, i2, i3⟩
/-- the versions, one after the other -/
theorem conv_rel {σ : Sg} (hI : Inv σ) {o : Nat} (ho : o < nO σ) (hx : σ 6 o = 1) {rv : Nat → Nat → Int32} (he : ∀ v, v < 8 → oF σ o ≤ v → v ≤ oV σ o → ∀ k, k < 8 → rv v k = σ 10 (cel o v k)) {tg : Nat} (htg : tg < 8) : ∀ i, oV σ o + i ≤ tg →
    (cxR (fun v n => σ 1 (stI (oC σ o) v n)) (fun v n => σ 1 (stI (oC σ o) v n + 1)) (fun v n => σ 1 (stI (oC σ o) v n + 2)) (fun v => stp σ (oC σ o) v) rv (oV σ o) i).1 = (cvV σ o (oV σ o) i).1 ∧
    (∀ v k, oF σ o ≤ v → v ≤ oV σ o → k < 8 → (cxR (fun v n => σ 1 (stI (oC σ o) v n)) (fun v n => σ 1 (stI (oC σ o) v n + 1)) (fun v n => σ 1 (stI (oC σ o) v n + 2)) (fun v => stp σ (oC σ o) v) rv (oV σ o) i).2 v k = σ 10 (cel o v k)) ∧
    (∀ j, (j < 64 * o + 8 * (oV σ o + 1) ∨ 64 * o + 64 ≤ j) → (cvV σ o (oV σ o) i).2 10 j = σ 10 j) ∧
    ((cvV σ o (oV σ o) i).1 = true → ∀ v k, oF σ o ≤ v → v ≤ oV σ o + i → k < 8 → (cxR (fun v n => σ 1 (stI (oC σ o) v n)) (fun v n => σ 1 (stI (oC σ o) v n + 1)) (fun v n => σ 1 (stI (oC σ o) v n + 2)) (fun v => stp σ (oC σ o) v) rv (oV σ o) i).2 v k = (cvV σ o (oV σ o) i).2 10 (cel o v k) ∧ isVal ((cvV σ o (oV σ o) i).2 10 (cel o v k))) := by
  obtain ⟨⟨o1, o2⟩, ⟨o3, o4⟩, ⟨o5, o6⟩, o7⟩ := (hI.2.2.2.2.2 o ho).2 hx
  have h8 := (hI.2.2.1 _ o2).1.2.2
  generalize hCx : oC σ o = C at *
  intro i
  induction i with
  | zero =>
    intro _
    exact ⟨rfl, fun v k h1 h2 hk => he v (by omega) h1 h2 k hk, fun j _ => rfl, fun _ v k h1 h2 hk => ⟨he v (by omega) h1 (by omega) k hk, o7 v k h1 (by omega) hk⟩⟩
  | succ i ih =>
    intro hi
    obtain ⟨i1, i2, i3, i4⟩ := ih (by omega)
    by_cases c : (cvV σ o (oV σ o) i).1 = true
    · have e1 : (cvV σ o (oV σ o) i).2 1 = σ 1 := by funext j; exact cvV_k i (by decide) j
      have eC : oC (cvV σ o (oV σ o) i).2 o = C := by rw [← hCx]; exact oC_of (fun j => cvV_k i (by decide) j) o
      have eS : stp (cvV σ o (oV σ o) i).2 C (oV σ o + 1 + i) = stp σ C (oV σ o + 1 + i) := by unfold stp; rw [e1]
      rw [cxR_go (by rw [i1]; exact c), cvV_go c, M_once, eC, eS]
      generalize hs : (cvV σ o (oV σ o) i).2 = s at *
      generalize hX : (cxR (fun v n => σ 1 (stI C v n)) (fun v n => σ 1 (stI C v n + 1)) (fun v n => σ 1 (stI C v n + 2)) (fun v => stp σ C v) rv (oV σ o) i).2 = X at *
      have r4 := i4 c
      have hrow : ∀ k, k < 8 → va_cpy (X (oV σ o + 1 + i - 1)) (X (oV σ o + 1 + i)) 0 0 8 k = s 10 (cel o (oV σ o + 1 + i - 1) k) ∧ isVal (va_cpy (X (oV σ o + 1 + i - 1)) (X (oV σ o + 1 + i)) 0 0 8 k) := fun k hk => by
        have e : va_cpy (X (oV σ o + 1 + i - 1)) (X (oV σ o + 1 + i)) 0 0 8 k = X (oV σ o + 1 + i - 1) k := by
          rw [va_cpy, if_pos (by omega)]
          rw [show 0 + (k - 0) = k by omega]
        rw [e]
        obtain ⟨z1, z2⟩ := r4 (oV σ o + 1 + i - 1) k (by omega) (by omega) hk
        exact ⟨z1, by rw [z1]; exact z2⟩
      obtain ⟨p1, p2, p3⟩ := once_rel (s := s) (o := o) (to := oV σ o + 1 + i) (C := C) (by omega) hrow (N := stp σ C (oV σ o + 1 + i)) (fun n hn => by rw [e1]; exact ((hI.2.2.1 C o2).2.2 (oV σ o + 1 + i) (by omega)).2 n hn) _ (Nat.le_refl _)
      rw [e1] at p1 p2
      refine ⟨p1, fun v k h1 h2 hk => ?_, fun j hj => ?_, fun hw v k h1 h2 hk => ?_⟩
      · show va_up X _ _ v k = _
        rw [va_up_n _ _ (by omega)]
        exact i2 v k h1 h2 hk
      · rw [p3 j (by omega)]
        exact i3 j hj
      · show va_up X _ _ v k = _ ∧ _
        by_cases e : v = oV σ o + 1 + i
        · subst e
          rw [va_up_s]
          obtain ⟨z1, z2⟩ := p2 hw k hk
          exact ⟨z1, by rw [← z1]; exact z2⟩
        · rw [va_up_n _ _ e, p3 (cel o v k) (by unfold cel; omega)]
          exact r4 v k h1 (by omega) hk
    · rw [cxR_stop (by rw [i1]; exact c) 1, cvV_stop c 1]
      exact ⟨i1, i2, i3, fun q => absurd q c⟩
