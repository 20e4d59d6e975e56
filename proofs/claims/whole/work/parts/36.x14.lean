/-! a rollback, object by object -/
theorem dlL_5 {σ : Sg} {o : Nat} : ∀ n j, dlL σ o n 5 j = if j < n then σ 5 j &&& (((1 : Int32) <<< (nI o &&& 31)) ^^^ (-1 : Int32)) else σ 5 j := by
  intro n
  induction n with
  | zero => intro j; rw [if_neg (by omega)]; exact mS_nk _ _ _ _ (by decide)
  | succ n ih =>
    intro j
    have e0 := ih n
    rw [if_neg (by omega)] at e0
    rw [dlL, mk1, e0]
    by_cases h : j = n
    · rw [if_pos h, if_pos (by omega), h]
    · rw [if_neg h, ih]
      by_cases h2 : j < n
      · rw [if_pos h2, if_pos (by omega)]
      · rw [if_neg h2, if_neg (by omega)]
theorem dlL_6 {σ : Sg} {o : Nat} : ∀ n j, dlL σ o n 6 j = if j = o then 0 else σ 6 j := by
  intro n
  induction n with
  | zero => intro j; show mS σ 6 o 0 6 j = _; rw [mk1]
  | succ n ih => intro j; rw [dlL, mS_nk _ _ _ _ (by decide), ih]
/-- no frame of class t runs version v -/
def noRun (σ : Sg) (t v : Nat) : Prop := ∀ j, j < 32 → ¬ runP σ (nI t) (nI v) j
/-- no live frame pins an object that was made at a version nobody runs -/
theorem free_pin {s : Sg} (hI : Inv s) {t o : Nat} (ht : t < nC s) (hn : noRun s t (cnt s t - 1)) (ho : o < nO s) (hx : s 6 o = 1) (h7 : oC s o = t) (h9 : oF s o = cnt s t - 1) {j : Nat} (hj : j < 32) (hl : liv s j) : ¬ pinB (s 5 j) (nI o) := by
  intro hp
  have hO24 := hI.2.1.2
  obtain ⟨⟨f1, f2⟩, ⟨f3, f4⟩, f5⟩ := hI.2.2.2.2.1 j hj hl
  obtain ⟨⟨o1, o2⟩, -⟩ := (hI.2.2.2.2.2 o ho).2 hx
  obtain ⟨e7, e9⟩ := (f5 o (by omega) hp).2 hx
  have h6 := hI.1.2
  have ef : fC s j = t := by
    rw [o1, f1] at e7
    have := (nI_eq (by omega) (by omega)).mp e7
    omega
  have k8 := (hI.2.2.1 t ht).1.2.2
  have ev : fV s j = cnt s t - 1 := by rw [ef] at f4; omega
  exact hn j hj ⟨hl, by rw [f1, ef], by rw [f3, ev]⟩
/-- dead frames aside, the pins do not matter -/
theorem iv_5 {σ σ2 : Sg} (hI : Iv σ) (hk : ∀ k, k ≠ 5 → σ2 k = σ k) (h5 : ∀ j, j < 32 → liv σ j → σ2 5 j = σ 5 j) : Iv σ2 := by
  have eC : nC σ2 = nC σ := by unfold nC; rw [hk 0 (by decide)]
  have eO : nO σ2 = nO σ := by unfold nO; rw [hk 0 (by decide)]
  have eK : ∀ u, cnt σ2 u = cnt σ u := fun u => by unfold cnt; rw [hk 1 (by decide)]
  have eoF : ∀ j, oF σ2 j = oF σ j := fun j => by unfold oF; rw [hk 9 (by decide)]
  have efC : ∀ j, fC σ2 j = fC σ j := fun j => by unfold fC; rw [hk 3 (by decide)]
  have efV : ∀ j, fV σ2 j = fV σ j := fun j => by unfold fV; rw [hk 4 (by decide)]
  have eD : ∀ u, dN σ2 u = dN σ u := fun u => by unfold dN; rw [hk 2 (by decide)]
  refine iv_thr hI (fun k h => hk k (by omega)) (fun u hu => by rw [eD, hk 2 (by decide)]; exact hI.1.2.2.2.1 u hu) (fun j hj hl => ?_)
  have hl2 : liv σ j := by unfold liv at hl ⊢; rw [eD] at hl; exact hl
  obtain ⟨⟨f1, f2⟩, ⟨f3, f4⟩, f5⟩ := hI.1.2.2.2.2.1 j hj hl2
  unfold InvF
  rw [efC, efV, eC, eO, eK, hk 3 (by decide), hk 4 (by decide), h5 j hj hl2, hk 6 (by decide), hk 7 (by decide)]
  exact ⟨⟨f1, f2⟩, ⟨f3, f4⟩, fun o ho hp => ⟨(f5 o ho hp).1, fun hx => by rw [eoF]; exact (f5 o ho hp).2 hx⟩⟩
/-- an object gone -/
theorem iv_6 {σ σ2 : Sg} (hI : Iv σ) {o : Nat} (hk : ∀ k, k ≠ 6 → σ2 k = σ k) (h6 : ∀ u, σ2 6 u = if u = o then 0 else σ 6 u) : Iv σ2 := by
  have eC : nC σ2 = nC σ := by unfold nC; rw [hk 0 (by decide)]
  have eO : nO σ2 = nO σ := by unfold nO; rw [hk 0 (by decide)]
  have eK : ∀ u, cnt σ2 u = cnt σ u := fun u => by unfold cnt; rw [hk 1 (by decide)]
  have eoF : ∀ j, oF σ2 j = oF σ j := fun j => by unfold oF; rw [hk 9 (by decide)]
  have efC : ∀ j, fC σ2 j = fC σ j := fun j => by unfold fC; rw [hk 3 (by decide)]
  have efV : ∀ j, fV σ2 j = fV σ j := fun j => by unfold fV; rw [hk 4 (by decide)]
  have eD : ∀ u, dN σ2 u = dN σ u := fun u => by unfold dN; rw [hk 2 (by decide)]
  obtain ⟨⟨⟨a1, a2⟩, ⟨b1, b2⟩, c, d, e, g⟩, hFr⟩ := hI
  refine ⟨⟨⟨by rw [hk 0 (by decide), eC]; exact a1, by rw [eC]; exact a2⟩, ⟨by rw [hk 0 (by decide), eO]; exact b1, by rw [eO]; exact b2⟩, fun t ht => InvC_same (fun i _ => by rw [hk 1 (by decide)]) (c t (eC ▸ ht)), fun th hth => by rw [eD, hk 2 (by decide)]; exact d th hth, fun j hj hl => ?_, fun u hu => ?_⟩, fr_of hFr (hk 0 (by decide)) (fun j _ => by rw [hk 1 (by decide)])⟩
  · have hl2 : liv σ j := by unfold liv at hl ⊢; rw [eD] at hl; exact hl
    obtain ⟨⟨f1, f2⟩, ⟨f3, f4⟩, f5⟩ := e j hj hl2
    unfold InvF
    rw [efC, efV, eC, eO, eK, hk 3 (by decide), hk 4 (by decide), hk 5 (by decide), hk 7 (by decide)]
    refine ⟨⟨f1, f2⟩, ⟨f3, f4⟩, fun u hu hp => ⟨(f5 u hu hp).1, fun hx => ?_⟩⟩
    rw [h6] at hx
    by_cases q : u = o
    · rw [if_pos q] at hx; exact absurd hx (by decide)
    · rw [if_neg q] at hx; rw [eoF]; exact (f5 u hu hp).2 hx
  · rw [eO] at hu
    rw [h6]
    by_cases q : u = o
    · rw [if_pos q]; exact ⟨Or.inl rfl, fun hx => absurd hx (by decide)⟩
    · rw [if_neg q]
      refine ⟨(g u hu).1, fun hx => ?_⟩
      have hO := (g u hu).2 hx
      exact InvO_same (by rw [eC]; exact Nat.le_refl _) (by rw [hk 7 (by decide)]) (by rw [hk 8 (by decide)]) (by rw [hk 9 (by decide)]) (by rw [eK]; exact Nat.le_refl _) (fun v k _ _ => by rw [hk 10 (by decide)]) (c _ hO.1.2).1.2.2 hO
theorem iv_delete {s : Sg} (hI : Iv s) {t o : Nat} (ht : t < nC s) (hn : noRun s t (cnt s t - 1)) (ho : o < nO s) (hx : s 6 o = 1) (h7 : oC s o = t) (h9 : oF s o = cnt s t - 1) : Iv (M_delete s o) ∧ ∀ j, j < 32 → liv s j → M_delete s o 5 j = s 5 j := by
  have hO24 := hI.1.2.1.2
  have h5 : ∀ j, j < 32 → liv s j → M_delete s o 5 j = s 5 j := fun j hj hl => by
    rw [M_delete, dlL_5, if_pos hj]
    exact pin_same _ (by omega) (free_pin hI.1 ht hn ho hx h7 h9 hj hl)
  have h1 : Iv (mS s 6 o 0) := iv_6 hI (o := o) (fun k h => mS_k h) (fun u => mk1 s 6 o 0 u)
  refine ⟨iv_5 h1 (fun k h => ?_) (fun j hj hl => ?_), h5⟩
  · funext j
    by_cases h6 : k = 6
    · subst h6; rw [M_delete, dlL_6, mk1]
    · rw [M_delete, dlL_k _ h h6, mS_nk _ _ _ _ h6]
  · have hl2 : liv s j := by unfold liv dN at hl ⊢; rw [mS_k (by decide)] at hl; exact hl
    rw [h5 j hj hl2, mS_nk _ _ _ _ (by decide)]
theorem iv_revert {s : Sg} (hI : Iv s) {o : Nat} (ho : o < nO s) (hx : s 6 o = 1) (h9 : oF s o < oV s o) : Iv (mS s 8 o (s 8 o - 1)) := by
  obtain ⟨⟨o1, o2⟩, ⟨o3, o4⟩, ⟨o5, o6⟩, o7⟩ := (hI.1.2.2.2.2.2 o ho).2 hx
  have hk8 := (hI.1.2.2.1 _ o2).1.2.2
  have e8' : s 8 o - 1 = nI (oV s o - 1) := by rw [o3]; exact pk_sub (a := oV s o) (b := 1) (by omega)
  rw [e8']
  generalize hs2 : mS s 8 o (nI (oV s o - 1)) = s2
  have hk : ∀ k, k ≠ 8 → s2 k = s k := fun k n => by rw [← hs2, mS_k n]
  have h8 : ∀ u, s2 8 u = if u = o then nI (oV s o - 1) else s 8 u := fun u => by rw [← hs2, mk1]
  refine iv_obj hI (o := o) (fun k n _ => hk k n) (fun u hu => by rw [h8, if_neg hu]) (fun u v k _ _ _ => by rw [hk 10 (by decide)]) (fun _ _ => ?_)
  have eC : nC s2 = nC s := by unfold nC; rw [hk 0 (by decide)]
  have eK : ∀ u, cnt s2 u = cnt s u := fun u => by unfold cnt; rw [hk 1 (by decide)]
  have e7 : oC s2 o = oC s o := by unfold oC; rw [hk 7 (by decide)]
  have e8 : oV s2 o = oV s o - 1 := by show cN (s2 8 o) = _; rw [h8, if_pos rfl]; exact nI_clamp (by omega)
  have e9 : oF s2 o = oF s o := by unfold oF; rw [hk 9 (by decide)]
  unfold InvO
  rw [e7, e8, e9, eC, eK, hk 7 (by decide), h8, if_pos rfl, hk 9 (by decide), hk 10 (by decide)]
  exact ⟨⟨o1, o2⟩, ⟨rfl, by omega⟩, ⟨o5, by omega⟩, fun v k q1 q2 hk3 => o7 v k q1 (by omega) hk3⟩
/-- what the rollback's loop keeps; the objects before n are done -/
def rbI (σ s : Sg) (t n : Nat) : Prop := Iv s ∧ (∀ k, k ≠ 5 → k ≠ 6 → k ≠ 8 → s k = σ k) ∧ (∀ u, u < n → s 6 u = 1 → oC s u = t → oV s u < cnt σ t - 1) ∧ (∀ u, n ≤ u → s 6 u = σ 6 u ∧ s 8 u = σ 8 u)
theorem rb_at {s : Sg} (hI : Inv s) {t n : Nat} (ht : t < nC s) (hn : n < nO s) : (¬ s 6 n = 0 ∧ s 7 n = nI t ∧ s 8 n = nI (cnt s t - 1)) ↔ (s 6 n = 1 ∧ oC s n = t ∧ oV s n = cnt s t - 1) := by
  have hC6 := hI.1.2
  have hk := (hI.2.2.1 t ht).1
  constructor
  · rintro ⟨h1, h2, h3⟩
    have hx := (hI.2.2.2.2.2 n hn).1.resolve_left h1
    obtain ⟨⟨o1, o2⟩, ⟨o3, o4⟩, -⟩ := (hI.2.2.2.2.2 n hn).2 hx
    have hk2 := (hI.2.2.1 _ o2).1
    rw [o1] at h2
    rw [o3] at h3
    exact ⟨hx, (nI_eq (by omega) (by omega)).mp h2, (nI_eq (by omega) (by omega)).mp h3⟩
  · rintro ⟨hx, h2, h3⟩
    obtain ⟨⟨o1, o2⟩, ⟨o3, o4⟩, -⟩ := (hI.2.2.2.2.2 n hn).2 hx
    exact ⟨by rw [hx]; decide, by rw [o1, h2], by rw [o3, h3]⟩
theorem noRun_of {σ s : Sg} (hk : ∀ k, k ≠ 5 → k ≠ 6 → k ≠ 8 → s k = σ k) {t v : Nat} (h : noRun σ t v) : noRun s t v := fun j hj hr => h j hj (by
  unfold runP liv dN at hr ⊢
  rw [hk 2 (by decide) (by decide) (by decide), hk 3 (by decide) (by decide) (by decide), hk 4 (by decide) (by decide) (by decide)] at hr
  exact hr)
theorem rb_step {σ : Sg} {t : Nat} (ht : t < nC σ) (hr : noRun σ t (cnt σ t - 1)) {n : Nat} (hn : n < nO σ) (h : rbI σ (rbL σ (nI t) (nI (cnt σ t - 1)) n) t n) : rbI σ (rbL σ (nI t) (nI (cnt σ t - 1)) (n + 1)) t (n + 1) := by
  rw [rbL]
  generalize rbL σ (nI t) (nI (cnt σ t - 1)) n = s at h ⊢
  obtain ⟨hI, hk, hd, hu⟩ := h
  have k0 := hk 0 (by decide) (by decide) (by decide)
  have k1 := hk 1 (by decide) (by decide) (by decide)
  have eK : cnt s t = cnt σ t := by unfold cnt; rw [k1]
  have hts : t < nC s := by unfold nC at ht ⊢; rw [k0]; exact ht
  have hns : n < nO s := by unfold nO at hn ⊢; rw [k0]; exact hn
  have hrs := noRun_of hk hr
  have hat := rb_at hI.1 hts hns
  rw [eK] at hat
  by_cases c : ¬ s 6 n = 0 ∧ s 7 n = nI t ∧ s 8 n = nI (cnt σ t - 1)
  · obtain ⟨hx, h7, h8⟩ := hat.mp c
    rw [wif_t c]
    obtain ⟨⟨o1, o2⟩, ⟨o3, o4⟩, ⟨o5, o6⟩, o7⟩ := (hI.1.2.2.2.2.2 n hns).2 hx
    have hk8 := (hI.1.2.2.1 _ o2).1.2.2
    by_cases c9 : s 9 n = nI (cnt σ t - 1)
    · rw [wif_t c9]
      have h9 : oF s n = cnt s t - 1 := by rw [o5] at c9; rw [eK]; rw [h7, eK] at hk8; exact (nI_eq (by omega) (by omega)).mp c9
      obtain ⟨i1, i2⟩ := iv_delete hI hts (by rw [eK]; exact hrs) hns hx h7 h9
      have e6 : ∀ u, M_delete s n 6 u = if u = n then 0 else s 6 u := fun u => by rw [M_delete, dlL_6]
      have eO : ∀ k, k ≠ 5 → k ≠ 6 → M_delete s n k = s k := fun k a b => by funext j; exact dlL_k _ a b j
      refine ⟨i1, fun k a b c => by rw [eO k a b]; exact hk k a b c, fun u hu2 hx2 h72 => ?_, fun u hu2 => ⟨by rw [e6, if_neg (by omega)]; exact (hu u (by omega)).1, by rw [eO 8 (by decide) (by decide)]; exact (hu u (by omega)).2⟩⟩
      rw [e6] at hx2
      by_cases q : u = n
      · rw [if_pos q] at hx2; exact absurd hx2 (by decide)
      · rw [if_neg q] at hx2
        unfold oC at h72
        unfold oV
        rw [eO 7 (by decide) (by decide)] at h72
        rw [eO 8 (by decide) (by decide)]
        exact hd u (by omega) hx2 h72
    · rw [wif_f c9]
      have h9 : oF s n < oV s n := by
        rcases Nat.lt_or_ge (oF s n) (oV s n) with q | q
        · exact q
        · exact absurd (by rw [o5]; congr 1; omega) c9
      have i1 := iv_revert hI hns hx h9
      have eO : ∀ k, k ≠ 8 → mS s 8 n (s 8 n - 1) k = s k := fun k a => mS_k a
      have e8' : s 8 n - 1 = nI (oV s n - 1) := by rw [o3]; exact pk_sub (a := oV s n) (b := 1) (by omega)
      refine ⟨i1, fun k a b c => by rw [eO k c]; exact hk k a b c, fun u hu2 hx2 h72 => ?_, fun u hu2 => ⟨by rw [eO 6 (by decide)]; exact (hu u (by omega)).1, by rw [mk1, if_neg (by omega)]; exact (hu u (by omega)).2⟩⟩
      rw [eO 6 (by decide)] at hx2
      unfold oC at h72
      rw [eO 7 (by decide)] at h72
      show cN (mS s 8 n (s 8 n - 1) 8 u) < _
      rw [mk1]
      by_cases q : u = n
      · rw [if_pos q, e8', show cN (nI (oV s n - 1)) = oV s n - 1 from nI_clamp (by omega)]; omega
      · rw [if_neg q]; exact hd u (by omega) hx2 h72
  · rw [wif_f c]
    refine ⟨hI, hk, fun u hu2 hx2 h72 => ?_, fun u hu2 => hu u (by omega)⟩
    by_cases q : u = n
    · subst q
      have h3 : ¬ oV s u = cnt σ t - 1 := fun z => c (hat.mpr ⟨hx2, h72, z⟩)
      obtain ⟨⟨o1, o2⟩, ⟨o3, o4⟩, -⟩ := (hI.1.2.2.2.2.2 u hns).2 hx2
      rw [h72, eK] at o4
      omega
    · exact hd u (by omega) hx2 h72
theorem rb_all {σ : Sg} (hI : Iv σ) {t : Nat} (ht : t < nC σ) (hr : noRun σ t (cnt σ t - 1)) : ∀ n, n ≤ nO σ → rbI σ (rbL σ (nI t) (nI (cnt σ t - 1)) n) t n := by
  intro n
  induction n with
  | zero => intro _; exact ⟨hI, fun _ _ _ _ => rfl, fun u hu => by omega, fun _ _ => ⟨rfl, rfl⟩⟩
  | succ n ih => intro hn; exact rb_step ht hr (by omega) (ih (by omega))
