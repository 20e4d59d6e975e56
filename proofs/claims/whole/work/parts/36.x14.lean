/-! a rollback, object by object -/
theorem dlL_5 {σ : Sg} {o : Nat} : ∀ n j, dlL σ o n 5 j = if j < n then σ 5 j &&& (((1 : Int32) <<< (nI o &&& 31)) ^^^ (-1 : Int32)) else σ 5 j := by
  intro n
  induction n with
  | zero => intro j; rw [if_neg (by omega)]; exact mS_nk _ _ _ _ (by decide)
  | succ n ih =>
    intro j
    have e0 := ih n
    rw [if_neg (by omega)] at e0
    rw [dlL, mk1, e0]
    by_cases h : j = n
    · rw [if_pos h, if_pos (by omega), h]
    · rw [if_neg h, ih]
      by_cases h2 : j < n
      · rw [if_pos h2, if_pos (by omega)]
      · rw [if_neg h2, if_neg (by omega)]
theorem dlL_6 {σ : Sg} {o : Nat} : ∀ n j, dlL σ o n 6 j = if j = o then 0 else σ 6 j := by
  intro n
  induction n with
  | zero => intro j; show mS σ 6 o 0 6 j = _; rw [mk1]
  | succ n ih => intro j; rw [dlL, mS_nk _ _ _ _ (by decide), ih]
/-- no frame of class t runs version v -/
def noRun (σ : Sg) (t v : Nat) : Prop := ∀ j, j < 32 → ¬ runP σ (nI t) (nI v) j
/-- no live frame pins an object that was made at a version nobody runs -/
theorem free_pin {s : Sg} (hI : Inv s) {t o : Nat} (ht : t < nC s) (hn : noRun s t (cnt s t - 1)) (ho : o < nO s) (hx : s 6 o = 1) (h7 : oC s o = t) (h9 : oF s o = cnt s t - 1) {j : Nat} (hj : j < 32) (hl : liv s j) : ¬ pinB (s 5 j) (nI o) := by
  intro hp
  have hO24 := hI.2.1.2
  obtain ⟨⟨f1, f2⟩, ⟨f3, f4⟩, f5⟩ := hI.2.2.2.2.1 j hj hl
  obtain ⟨⟨o1, o2⟩, -⟩ := (hI.2.2.2.2.2 o ho).2 hx
  obtain ⟨e7, e9⟩ := (f5 o (by omega) hp).2 hx
  have h6 := hI.1.2
  have ef : fC s j = t := by
    rw [o1, f1] at e7
    have := (nI_eq (by omega) (by omega)).mp e7
    omega
  have k8 := (hI.2.2.1 t ht).1.2.2
  have ev : fV s j = cnt s t - 1 := by rw [ef] at f4; omega
  exact hn j hj ⟨hl, by rw [f1, ef], by rw [f3, ev]⟩
/-- dead frames aside, the pins do not matter -/
theorem iv_5 {σ σ2 : Sg} (hI : Iv σ) (hk : ∀ k, k ≠ 5 → σ2 k = σ k) (h5 : ∀ j, j < 32 → liv σ j → σ2 5 j = σ 5 j) : Iv σ2 := by
  have eC : nC σ2 = nC σ := by unfold nC; rw [hk 0 (by decide)]
  have eO : nO σ2 = nO σ := by unfold nO; rw [hk 0 (by decide)]
  have eK : ∀ u, cnt σ2 u = cnt σ u := fun u => by unfold cnt; rw [hk 1 (by decide)]
  have eoF : ∀ j, oF σ2 j = oF σ j := fun j => by unfold oF; rw [hk 9 (by decide)]
  have efC : ∀ j, fC σ2 j = fC σ j := fun j => by unfold fC; rw [hk 3 (by decide)]
  have efV : ∀ j, fV σ2 j = fV σ j := fun j => by unfold fV; rw [hk 4 (by decide)]
  have eD : ∀ u, dN σ2 u = dN σ u := fun u => by unfold dN; rw [hk 2 (by decide)]
  refine iv_thr hI (fun k h => hk k (by omega)) (fun u hu => by rw [eD, hk 2 (by decide)]; exact hI.1.2.2.2.1 u hu) (fun j hj hl => ?_)
  have hl2 : liv σ j := by unfold liv at hl ⊢; rw [eD] at hl; exact hl
  obtain ⟨⟨f1, f2⟩, ⟨f3, f4⟩, f5⟩ := hI.1.2.2.2.2.1 j hj hl2
  unfold InvF
  rw [efC, efV, eC, eO, eK, hk 3 (by decide), hk 4 (by decide), h5 j hj hl2, hk 6 (by decide), hk 7 (by decide)]
  exact ⟨⟨f1, f2⟩, ⟨f3, f4⟩, fun o ho hp => ⟨(f5 o ho hp).1, fun hx => by rw [eoF]; exact (f5 o ho hp).2 hx⟩⟩
/-- an object gone -/
theorem iv_6 {σ σ2 : Sg} (hI : Iv σ) {o : Nat} (hk : ∀ k, k ≠ 6 → σ2 k = σ k) (h6 : ∀ u, σ2 6 u = if u = o then 0 else σ 6 u) : Iv σ2 := by
  have eC : nC σ2 = nC σ := by unfold nC; rw [hk 0 (by decide)]
  have eO : nO σ2 = nO σ := by unfold nO; rw [hk 0 (by decide)]
  have eK : ∀ u, cnt σ2 u = cnt σ u := fun u => by unfold cnt; rw [hk 1 (by decide)]
  have eoF : ∀ j, oF σ2 j = oF σ j := fun j => by unfold oF; rw [hk 9 (by decide)]
  have efC : ∀ j, fC σ2 j = fC σ j := fun j => by unfold fC; rw [hk 3 (by decide)]
  have efV : ∀ j, fV σ2 j = fV σ j := fun j => by unfold fV; rw [hk 4 (by decide)]
  have eD : ∀ u, dN σ2 u = dN σ u := fun u => by unfold dN; rw [hk 2 (by decide)]
  obtain ⟨⟨⟨a1, a2⟩, ⟨b1, b2⟩, c, d, e, g⟩, hFr⟩ := hI
  refine ⟨⟨⟨by rw [hk 0 (by decide), eC]; exact a1, by rw [eC]; exact a2⟩, ⟨by rw [hk 0 (by decide), eO]; exact b1, by rw [eO]; exact b2⟩, fun t ht => InvC_same (fun i _ => by rw [hk 1 (by decide)]) (c t (eC ▸ ht)), fun th hth => by rw [eD, hk 2 (by decide)]; exact d th hth, fun j hj hl => ?_, fun u hu => ?_⟩, fr_of hFr (hk 0 (by decide)) (fun j _ => by rw [hk 1 (by decide)])⟩
  · have hl2 : liv σ j := by unfold liv at hl ⊢; rw [eD] at hl; exact hl
    obtain ⟨⟨f1, f2⟩, ⟨f3, f4⟩, f5⟩ := e j hj hl2
    unfold InvF
    rw [efC, efV, eC, eO, eK, hk 3 (by decide), hk 4 (by decide), hk 5 (by decide), hk 7 (by decide)]
    refine ⟨⟨f1, f2⟩, ⟨f3, f4⟩, fun u hu hp => ⟨(f5 u hu hp).1, fun hx => ?_⟩⟩
    rw [h6] at hx
    by_cases q : u = o
    · rw [if_pos q] at hx; exact absurd hx (by decide)
    · rw [if_neg q] at hx; rw [eoF]; exact (f5 u hu hp).2 hx
  · rw [eO] at hu
    rw [h6]
    by_cases q : u = o
    · rw [if_pos q]; exact ⟨Or.inl rfl, fun hx => absurd hx (by decide)⟩
    · rw [if_neg q]
      refine ⟨(g u hu).1, fun hx => ?_⟩
      have hO := (g u hu).2 hx
      exact InvO_same (by rw [eC]; exact Nat.le_refl _) (by rw [hk 7 (by decide)]) (by rw [hk 8 (by decide)]) (by rw [hk 9 (by decide)]) (by rw [eK]; exact Nat.le_refl _) (fun v k _ _ => by rw [hk 10 (by decide)]) (c _ hO.1.2).1.2.2 hO
theorem iv_delete {s : Sg} (hI : Iv s) {t o : Nat} (ht : t < nC s) (hn : noRun s t (cnt s t - 1)) (ho : o < nO s) (hx : s 6 o = 1) (h7 : oC s o = t) (h9 : oF s o = cnt s t - 1) : Iv (M_delete s o) ∧ ∀ j, j < 32 → liv s j → M_delete s o 5 j = s 5 j := by
  have hO24 := hI.1.2.1.2
  have h5 : ∀ j, j < 32 → liv s j → M_delete s o 5 j = s 5 j := fun j hj hl => by
    rw [M_delete, dlL_5, if_pos hj]
    exact pin_same _ (by omega) (free_pin hI.1 ht hn ho hx h7 h9 hj hl)
  have h1 : Iv (mS s 6 o 0) := iv_6 hI (o := o) (fun k h => mS_k h) (fun u => mk1 s 6 o 0 u)
  refine ⟨iv_5 h1 (fun k h => ?_) (fun j hj hl => ?_), h5⟩
  · funext j
    by_cases h6 : k = 6
    · subst h6; rw [M_delete, dlL_6, mk1]
    · rw [M_delete, dlL_k _ h h6, mS_nk _ _ _ _ h6]
  · have hl2 : liv s j := by unfold liv dN at hl ⊢; rw [mS_k (by decide)] at hl; exact hl
    rw [h5 j hj hl2, mS_nk _ _ _ _ (by decide)]
theorem iv_revert {s : Sg} (hI : Iv s) {o : Nat} (ho : o < nO s) (hx : s 6 o = 1) (h9 : oF s o < oV s o) : Iv (mS s 8 o (s 8 o - 1)) := by
  obtain ⟨⟨o1, o2⟩, ⟨o3, o4⟩, ⟨o5, o6⟩, o7⟩ := (hI.1.2.2.2.2.2 o ho).2 hx
  have hk8 := (hI.1.2.2.1 _ o2).1.2.2
  have e8' : s 8 o - 1 = nI (oV s o - 1) := by rw [o3]; exact pk_sub (a := oV s o) (b := 1) (by omega)
  rw [e8']
  generalize hs2 : mS s 8 o (nI (oV s o - 1)) = s2
  have hk : ∀ k, k ≠ 8 → s2 k = s k := fun k n => by rw [← hs2, mS_k n]
  have h8 : ∀ u, s2 8 u = if u = o then nI (oV s o - 1) else s 8 u := fun u => by rw [← hs2, mk1]
  refine iv_obj hI (o := o) (fun k n _ => hk k n) (fun u hu => by rw [h8, if_neg hu]) (fun u v k _ _ _ => by rw [hk 10 (by decide)]) (fun _ _ => ?_)
  have eC : nC s2 = nC s := by unfold nC; rw [hk 0 (by decide)]
  have eK : ∀ u, cnt s2 u = cnt s u := fun u => by unfold cnt; rw [hk 1 (by decide)]
  have e7 : oC s2 o = oC s o := by unfold oC; rw [hk 7 (by decide)]
  have e8 : oV s2 o = oV s o - 1 := by show cN (s2 8 o) = _; rw [h8, if_pos rfl]; exact nI_clamp (by omega)
  have e9 : oF s2 o = oF s o := by unfold oF; rw [hk 9 (by decide)]
  unfold InvO
  rw [e7, e8, e9, eC, eK, hk 7 (by decide), h8, if_pos rfl, hk 9 (by decide), hk 10 (by decide)]
  exact ⟨⟨o1, o2⟩, ⟨rfl, by omega⟩, ⟨o5, by omega⟩, fun v k q1 q2 hk3 => o7 v k q1 (by omega) hk3⟩
/-- what the rollback's loop keeps; the objects before n are done -/
def rbI (σ s : Sg) (t n : Nat) : Prop := Iv s ∧ (∀ k, k ≠ 5 → k ≠ 6 → k ≠ 8 → s k = σ k) ∧ (∀ u, u < n → s 6 u = 1 → oC s u = t → oV s u < cnt σ t - 1) ∧ (∀ u, n ≤ u → s 6 u = σ 6 u ∧ s 8 u = σ 8 u)
theorem rb_at {s : Sg} (hI : Inv s) {t n : Nat} (ht : t < nC s) (hn : n < nO s) : (¬ s 6 n = 0 ∧ s 7 n = nI t ∧ s 8 n = nI (cnt s t - 1)) ↔ (s 6 n = 1 ∧ oC s n = t ∧ oV s n = cnt s t - 1) := by
  have hC6 := hI.1.2
  have hk := (hI.2.2.1 t ht).1
  constructor
  · rintro ⟨h1, h2, h3⟩
    have hx := (hI.2.2.2.2.2 n hn).1.resolve_left h1
    obtain ⟨⟨o1, o2⟩, ⟨o3, o4⟩, -⟩ := (hI.2.2.2.2.2 n hn).2 hx
    have hk2 := (hI.2.2.1 _ o2).1
    rw [o1] at h2
    rw [o3] at h3
    exact ⟨hx, (nI_eq (by omega) (by omega)).mp h2, (nI_eq (by omega) (by omega)).mp h3⟩
  · rintro ⟨hx, h2, h3⟩
    obtain ⟨⟨o1, o2⟩, ⟨o3, o4⟩, -⟩ := (hI.2.2.2.2.2 n hn).2 hx
    exact ⟨by rw [hx]; decide, by rw [o1, h2], by rw [o3, h3]⟩
theorem noRun_of {σ s : Sg} (hk : ∀ k, k ≠ 5 → k ≠ 6 → k ≠ 8 → s k = σ k) {t v : Nat} (h : noRun σ t v) : noRun s t v := fun j hj hr => h j hj (by
  unfold runP liv dN at hr ⊢
  rw [hk 2 (by decide) (by decide) (by decide), hk 3 (by decide) (by decide) (by decide), hk 4 (by decide) (by decide) (by decide)] at hr
  exact hr)
theorem rb_step {σ : Sg} {t : Nat} (ht : t < nC σ) (hr : noRun σ t (cnt σ t - 1)) {n : Nat} (hn : n < nO σ) (h : rbI σ (rbL σ (nI t) (nI (cnt σ t - 1)) n) t n) : rbI σ (rbL σ (nI t) (nI (cnt σ t - 1)) (n + 1)) t (n + 1) := by
  rw [rbL]
  generalize rbL σ (nI t) (nI (cnt σ t - 1)) n = s at h ⊢
  obtain ⟨hI, hk, hd, hu⟩ := h
  have k0 := hk 0 (by decide) (by decide) (by decide)
  have k1 := hk 1 (by decide) (by decide) (by decide)
  have eK : cnt s t = cnt σ t := by unfold cnt; rw [k1]
  have hts : t < nC s := by unfold nC at ht ⊢; rw [k0]; exact ht
  have hns : n < nO s := by unfold nO at hn ⊢; rw [k0]; exact hn
  have hrs := noRun_of hk hr
  have hat := rb_at hI.1 hts hns
  rw [eK] at hat
  by_cases c : ¬ s 6 n = 0 ∧ s 7 n = nI t ∧ s 8 n = nI (cnt σ t - 1)
  · obtain ⟨hx, h7, h8⟩ := hat.mp c
    rw [wif_t c]
    obtain ⟨⟨o1, o2⟩, ⟨o3, o4⟩, ⟨o5, o6⟩, o7⟩ := (hI.1.2.2.2.2.2 n hns).2 hx
    have hk8 := (hI.1.2.2.1 _ o2).1.2.2
    by_cases c9 : s 9 n = nI (cnt σ t - 1)
    · rw [wif_t c9]
      have h9 : oF s n = cnt s t - 1 := by rw [o5] at c9; rw [eK]; rw [h7, eK] at hk8; exact (nI_eq (by omega) (by omega)).mp c9
      obtain ⟨i1, i2⟩ := iv_delete hI hts (by rw [eK]; exact hrs) hns hx h7 h9
      have e6 : ∀ u, M_delete s n 6 u = if u = n then 0 else s 6 u := fun u => by rw [M_delete, dlL_6]
      have eO : ∀ k, k ≠ 5 → k ≠ 6 → M_delete s n k = s k := fun k a b => by funext j; exact dlL_k _ a b j
      refine ⟨i1, fun k a b c => by rw [eO k a b]; exact hk k a b c, fun u hu2 hx2 h72 => ?_, fun u hu2 => ⟨by rw [e6, if_neg (by omega)]; exact (hu u (by omega)).1, by rw [eO 8 (by decide) (by decide)]; exact (hu u (by omega)).2⟩⟩
      rw [e6] at hx2
      by_cases q : u = n
      · rw [if_pos q] at hx2; exact absurd hx2 (by decide)
      · rw [if_neg q] at hx2
        unfold oC at h72
        unfold oV
        rw [eO 7 (by decide) (by decide)] at h72
        rw [eO 8 (by decide) (by decide)]
        exact hd u (by omega) hx2 h72
    · rw [wif_f c9]
      have h9 : oF s n < oV s n := by
        rcases Nat.lt_or_ge (oF s n) (oV s n) with q | q
        · exact q
        · exact absurd (by rw [o5]; congr 1; omega) c9
      have i1 := iv_revert hI hns hx h9
      have eO : ∀ k, k ≠ 8 → mS s 8 n (s 8 n - 1) k = s k := fun k a => mS_k a
      have e8' : s 8 n - 1 = nI (oV s n - 1) := by rw [o3]; exact pk_sub (a := oV s n) (b := 1) (by omega)
      refine ⟨i1, fun k a b c => by rw [eO k c]; exact hk k a b c, fun u hu2 hx2 h72 => ?_, fun u hu2 => ⟨by rw [eO 6 (by decide)]; exact (hu u (by omega)).1, by rw [mk1, if_neg (by omega)]; exact (hu u (by omega)).2⟩⟩
      rw [eO 6 (by decide)] at hx2
      unfold oC at h72
      rw [eO 7 (by decide)] at h72
      show cN (mS s 8 n (s 8 n - 1) 8 u) < _
      rw [mk1]
      by_cases q : u = n
      · rw [if_pos q, e8', show cN (nI (oV s n - 1)) = oV s n - 1 from nI_clamp (by omega)]; omega
      · rw [if_neg q]; exact hd u (by omega) hx2 h72
  · rw [wif_f c]
    refine ⟨hI, hk, fun u hu2 hx2 h72 => ?_, fun u hu2 => hu u (by omega)⟩
    by_cases q : u = n
    · subst q
      have h3 : ¬ oV s u = cnt σ t - 1 := fun z => c (hat.mpr ⟨hx2, h72, z⟩)
      obtain ⟨⟨o1, o2⟩, ⟨o3, o4⟩, -⟩ := (hI.1.2.2.2.2.2 u hns).2 hx2
      rw [h72, eK] at o4
      omega
    · exact hd u (by omega) hx2 h72
theorem rb_all {σ : Sg} (hI : Iv σ) {t : Nat} (ht : t < nC σ) (hr : noRun σ t (cnt σ t - 1)) : ∀ n, n ≤ nO σ → rbI σ (rbL σ (nI t) (nI (cnt σ t - 1)) n) t n := by
  intro n
  induction n with
  | zero => intro _; exact ⟨hI, fun _ _ _ _ => rfl, fun u hu => by omega, fun _ _ => ⟨rfl, rfl⟩⟩
  | succ n ih => intro hn; exact rb_step ht hr (by omega) (ih (by omega))
theorem iv_rollback {σ : Sg} (hI : Iv σ) (type : Int32) : Iv (M_rollback σ type).2 := by
  rw [M_rollback]
  refine iv_wif (fun h => iv_wif (fun _ => hI) (fun h0 => iv_wif (fun _ => hI) (fun hr => ?_))) (fun _ => hI)
  obtain ⟨t, ht, rfl⟩ := h
  have hC6 := hI.1.1.2
  have ct : cN (nI t) = t := nI_clamp (by omega)
  rw [ct] at h0 hr ⊢
  have hnr : noRun σ t (cnt σ t - 1) := fun j hj q => hr ⟨j, hj, q⟩
  have hb := rb_all hI ht hnr (nO σ) (Nat.le_refl _)
  show Iv (mS (mS (rbL σ (nI t) (nI (cnt σ t - 1)) (nO σ)) 1 (162 * t + 1) 0) 1 (162 * t + 0) (nI (cnt σ t - 1)))
  generalize rbL σ (nI t) (nI (cnt σ t - 1)) (nO σ) = s at hb ⊢
  obtain ⟨hs, hk, hd, -⟩ := hb
  have hk8 := (hI.1.2.2.1 t ht).1
  have k0 := hk 0 (by decide) (by decide) (by decide)
  have k1 := hk 1 (by decide) (by decide) (by decide)
  have eO : nO s = nO σ := by unfold nO; rw [k0]
  have eKs : cnt s t = cnt σ t := by unfold cnt; rw [k1]
  have hts : t < nC s := by unfold nC at ht ⊢; rw [k0]; exact ht
  have hrs := noRun_of hk hnr
  generalize hs2 : mS (mS s 1 (162 * t + 1) 0) 1 (162 * t + 0) (nI (cnt σ t - 1)) = s2
  have h1 : ∀ j, s2 1 j = if j = 162 * t + 0 then nI (cnt σ t - 1) else if j = 162 * t + 1 then 0 else s 1 j := fun j => by rw [← hs2, m11, m11]
  have hk2 : ∀ k, k ≠ 1 → s2 k = s k := fun k h => by rw [← hs2, mS_k h, mS_k h]
  have eC : nC s2 = nC s := by unfold nC; rw [hk2 0 (by decide)]
  have eO2 : nO s2 = nO s := by unfold nO; rw [hk2 0 (by decide)]
  have eKt : cnt s2 t = cnt σ t - 1 := by unfold cnt; rw [h1, if_pos rfl]; exact nI_clamp (show cnt σ t - 1 < 2 ^ 31 by omega)
  have eK : ∀ u, u ≠ t → cnt s2 u = cnt s u := fun u hu => by unfold cnt; rw [h1, if_neg (by omega), if_neg (by omega)]
  have eoF : ∀ j, oF s2 j = oF s j := fun j => by unfold oF; rw [hk2 9 (by decide)]
  have eoC : ∀ j, oC s2 j = oC s j := fun j => by unfold oC; rw [hk2 7 (by decide)]
  have eoV : ∀ j, oV s2 j = oV s j := fun j => by unfold oV; rw [hk2 8 (by decide)]
  have efC : ∀ j, fC s2 j = fC s j := fun j => by unfold fC; rw [hk2 3 (by decide)]
  have efV : ∀ j, fV s2 j = fV s j := fun j => by unfold fV; rw [hk2 4 (by decide)]
  have eD : ∀ u, dN s2 u = dN s u := fun u => by unfold dN; rw [hk2 2 (by decide)]
  have eS : ∀ v, v < 8 → stp s2 t v = stp s t v := fun v hv => by unfold stp; rw [h1, if_neg (by omega), if_neg (by omega)]
  obtain ⟨⟨⟨a1, a2⟩, ⟨b1, b2⟩, c, d, e, g⟩, hFr⟩ := hs
  refine ⟨⟨⟨by rw [hk2 0 (by decide), eC]; exact a1, by rw [eC]; exact a2⟩, ⟨by rw [hk2 0 (by decide), eO2]; exact b1, by rw [eO2]; exact b2⟩, fun u hu => ?_, fun th hth => by rw [eD, hk2 2 (by decide)]; exact d th hth, fun j hj hl => ?_, fun o ho => ?_⟩, fr_of hFr (hk2 0 (by decide)) (fun j hj => by rw [h1, if_neg (by omega), if_neg (by omega)])⟩
  · rw [eC] at hu
    by_cases q : u = t
    · subst q
      obtain ⟨_, _, cc⟩ := c u hu
      refine ⟨by rw [eKt, h1, if_pos rfl]; exact ⟨rfl, by omega, by omega⟩, Or.inl (by rw [h1, if_neg (by omega), if_pos rfl]), fun v hv => ?_⟩
      rw [eS v hv, h1 (162 * u + (10 + v)), if_neg (by omega), if_neg (by omega)]
      refine ⟨(cc v hv).1, fun n hn => ?_⟩
      rw [h1 (162 * u + (18 + 18 * v + 3 * n)), if_neg (by omega), if_neg (by omega), h1 (162 * u + (18 + 18 * v + 3 * n) + 1), if_neg (by omega), if_neg (by omega), h1 (162 * u + (18 + 18 * v + 3 * n) + 2), if_neg (by omega), if_neg (by omega)]
      exact (cc v hv).2 n hn
    · exact InvC_same (fun i hi => by rw [h1, if_neg (by omega), if_neg (by omega)]) (c u hu)
  · have hl2 : liv s j := by unfold liv at hl ⊢; rw [eD] at hl; exact hl
    obtain ⟨⟨f1, f2⟩, ⟨f3, f4⟩, f5⟩ := e j hj hl2
    unfold InvF
    rw [efC, efV, eC, eO2, hk2 3 (by decide), hk2 4 (by decide), hk2 5 (by decide), hk2 6 (by decide), hk2 7 (by decide)]
    refine ⟨⟨f1, f2⟩, ⟨f3, ?_⟩, fun o ho hp => ⟨(f5 o ho hp).1, fun hx => by rw [eoF]; exact (f5 o ho hp).2 hx⟩⟩
    by_cases q : fC s j = t
    · rw [q, eKt]
      rw [q, eKs] at f4
      have : ¬ fV s j = cnt σ t - 1 := fun z => hrs j hj ⟨hl2, by rw [f1, q], by rw [f3, z]⟩
      omega
    · rw [eK _ q]; exact f4
  · rw [eO2] at ho
    rw [hk2 6 (by decide)]
    refine ⟨(g o ho).1, fun hx => ?_⟩
    obtain ⟨⟨o1, o2⟩, ⟨o3, o4⟩, ⟨o5, o6⟩, o7⟩ := (g o ho).2 hx
    unfold InvO
    rw [eoC, eoV, eoF, eC, hk2 7 (by decide), hk2 8 (by decide), hk2 9 (by decide), hk2 10 (by decide)]
    refine ⟨⟨o1, o2⟩, ⟨o3, ?_⟩, ⟨o5, o6⟩, o7⟩
    by_cases q : oC s o = t
    · rw [q, eKt]; exact hd o (by omega) hx q
    · rw [eK _ q]; exact o4
section XD15
variable {G : hG} {L : List Nat} {f : Nat → va_E} {ad : xAd} {σ : Sg}
theorem rx_5 (hd8 : ∀ t, t < 4 → dN σ t ≤ 8) (hR : RX G L f ad σ) {σ2 : Sg} (hk : ∀ k, k ≠ 5 → σ2 k = σ k) (h5 : ∀ j, j < 32 → liv σ j → σ2 5 j = σ 5 j) : RX G L f ad σ2 := by
  have e : σ2 = fun k => if k = 5 then σ2 5 else σ k := by
    funext k
    by_cases h : k = 5
    · subst h; rfl
    · show σ2 k = if k = 5 then σ2 5 else σ k
      rw [if_neg h, hk k h]
  generalize σ2 5 = x at e h5
  subst e
  have hl : ∀ a b c d, XL (fun k => if k = 5 then x else σ k) a b c d → XL σ a b c d := fun a b c d h => h
  refine RX_gen hR (fun _ _ _ _ => False) (fun x h => h) (fun a b c d h => Or.inl ⟨hl a b c d h, rfl⟩) (fun _ _ _ _ _ _ _ _ _ _ q => q.elim) (fun a b c d h => ?_)
  have h0 := (hR.1 a b c d (hl a b c d h)).2
  by_cases q : a = 12
  · subst q
    obtain ⟨z1, z2, z3⟩ := hl 12 b c d h
    have h8 := hd8 b z1
    show f (ad 12 b c d) = .inr (3, [.ref (ad 4 (fC σ (8 * b + c)) 0 0), .int (nI (fV σ (8 * b + c))), .int (x (8 * b + c))])
    rw [h5 (8 * b + c) (by omega) (liv_at z2 h8)]
    exact h0
  · match a, h0 with
    | 0, h0 => exact h0
    | 1, h0 => exact h0
    | 2, h0 => exact h0
    | 3, h0 => exact h0
    | 4, h0 => exact h0
    | 5, h0 => exact h0
    | 6, h0 => exact h0
    | 7, h0 => exact h0
    | 8, h0 => exact h0
    | 9, h0 => exact h0
    | 10, h0 => exact h0
    | 11, h0 => exact h0
    | 12, _ => exact absurd rfl q
    | 13, h0 => exact h0
    | 14, h0 => exact h0
    | 15, h0 => exact h0
    | n + 16, h0 => exact h0
theorem rx_delete (hI : Iv σ) (hR : RX G L f ad σ) {t o : Nat} (ht : t < nC σ) (hn : noRun σ t (cnt σ t - 1)) (ho : o < nO σ) (hx : σ 6 o = 1) (h7 : oC σ o = t) (h9 : oF σ o = cnt σ t - 1) {g3 : Nat → Option Nat} (he3 : ∀ o, o < nO σ → (σ 6 o = 1 → g3 o = some (ad 13 o 0 0)) ∧ (¬ σ 6 o = 1 → g3 o = none)) :
    RX G L (va_up f (ad 3 0 0 0) (hAQ G 7 24 (va_up g3 o none))) ad (M_delete σ o) := by
  obtain ⟨-, i2⟩ := iv_delete hI ht hn ho hx h7 h9
  have l3 : XL σ 3 0 0 0 := ⟨rfl, rfl, rfl⟩
  have hk : ∀ k, k ≠ 6 → mS σ 6 o 0 k = σ k := fun k h => mS_k h
  have h6 : ∀ u, mS σ 6 o 0 6 u = if u = o then 0 else σ 6 u := fun u => mk1 σ 6 o 0 u
  have eO : nO (mS σ 6 o 0) = nO σ := by unfold nO; rw [hk 0 (by decide)]
  have hO : ∀ a b c d, XL σ a b c d → ¬ (a = 3) → va_up f (ad 3 0 0 0) (hAQ G 7 24 (va_up g3 o none)) (ad a b c d) = f (ad a b c d) := fun a b c d h n => va_up_n _ _ (rx_ne hR h l3 (by omega))
  have h1 : RX G L (va_up f (ad 3 0 0 0) (hAQ G 7 24 (va_up g3 o none))) ad (mS σ 6 o 0) := by
    refine RX_obj (o := o) hI.1 hR (fun k q1 q2 => hk k (by omega)) (by rw [hk 0 (by decide)]) (fun x h => h) (fun a b c d h => rfl) (fun a b c d h n0 n3 hn => hO a b c d h n3) (fun u hu q1 q2 => ⟨eO ▸ q1, by rw [h6, if_neg hu] at q2; exact q2⟩) (fun u hu => ⟨by rw [hk 7 (by decide)], by rw [hk 8 (by decide)], by rw [hk 9 (by decide)]⟩) (fun u v k hu hv hk3 => by rw [hk 10 (by decide)]) (fun n => absurd ⟨ho, hx⟩ n) (fun n => absurd ⟨ho, hx⟩ n) ?_ ?_ (fun _ hx2 => ?_)
    · rw [hO 0 0 0 0 ⟨rfl, rfl, rfl⟩ (by decide), (rx0 hR).2]
      rfl
    · rw [va_up_s]
      refine ⟨_, rfl, fun u hu => ?_⟩
      rw [eO] at hu
      rw [h6]
      by_cases e : u = o
      · rw [if_pos e, e, va_up_s]
        exact ⟨fun q => absurd q (by decide), fun _ => rfl⟩
      · rw [if_neg e, va_up_n _ _ e]; exact he3 u hu
    · rw [h6, if_pos rfl] at hx2
      exact absurd hx2 (by decide)
  refine rx_5 (fun u hu => ?_) h1 (fun k h => ?_) (fun j hj hl => ?_)
  · show cN (mS σ 6 o 0 2 u) ≤ 8
    rw [hk 2 (by decide)]
    exact (hI.1.2.2.2.1 u hu).2
  · funext j
    by_cases h6 : k = 6
    · subst h6; rw [M_delete, dlL_6, mk1]
    · rw [M_delete, dlL_k _ h h6, mS_nk _ _ _ _ h6]
  · have hl2 : liv σ j := by unfold liv dN at hl ⊢; rw [mS_k (by decide)] at hl; exact hl
    rw [i2 j hj hl2, mS_nk _ _ _ _ (by decide)]
theorem rx_revert (hI : Inv σ) (hR : RX G L f ad σ) {o : Nat} (ho : o < nO σ) (hx : σ 6 o = 1) (h9 : oF σ o < oV σ o) :
    RX G L (va_up f (ad 13 o 0 0) (.inr (5, [.ref (ad 4 (oC σ o) 0 0), .int (nI (oF σ o)), .int (nI (oV σ o) - 1), .ref (ad 14 o 0 0)]))) ad (mS σ 8 o (σ 8 o - 1)) := by
  obtain ⟨⟨o1, o2⟩, ⟨o3, o4⟩, ⟨o5, o6⟩, o7⟩ := (hI.2.2.2.2.2 o ho).2 hx
  have hk8 := (hI.2.2.1 _ o2).1.2.2
  have e8' : nI (oV σ o) - 1 = nI (oV σ o - 1) := pk_sub (a := oV σ o) (b := 1) (by omega)
  rw [o3, e8']
  have l13 : XL σ 13 o 0 0 := ⟨⟨ho, hx⟩, rfl, rfl⟩
  have hk : ∀ k, k ≠ 8 → mS σ 8 o (nI (oV σ o - 1)) k = σ k := fun k n => mS_k n
  have e8 : oV (mS σ 8 o (nI (oV σ o - 1))) o = oV σ o - 1 := by show cN (mS σ 8 o _ 8 o) = _; rw [mk1, if_pos rfl]; exact nI_clamp (by omega)
  have e7 : oC (mS σ 8 o (nI (oV σ o - 1))) o = oC σ o := congrArg cN (congrFun (hk 7 (by decide)) o)
  have e9 : oF (mS σ 8 o (nI (oV σ o - 1))) o = oF σ o := congrArg cN (congrFun (hk 9 (by decide)) o)
  have hO : ∀ a b c d, XL σ a b c d → ¬ (a = 13 ∧ b = o ∧ c = 0 ∧ d = 0) → va_up f (ad 13 o 0 0) (.inr (5, [.ref (ad 4 (oC σ o) 0 0), .int (nI (oF σ o)), .int (nI (oV σ o - 1)), .ref (ad 14 o 0 0)])) (ad a b c d) = f (ad a b c d) := fun a b c d h n => va_up_n _ _ (rx_ne hR h l13 n)
  refine rx_obj8 hI hR ho hx (fun k n _ => hk k n) (fun u hu => by rw [mk1, if_neg hu]) (fun u v k _ _ _ => by rw [hk 10 (by decide)]) (fun a b c d h n => hO a b c d h (by omega)) ?_ (hO 14 o 0 0 ⟨⟨ho, hx⟩, rfl, rfl⟩ (by omega)) (fun v hv => ?_)
  · rw [va_up_s]
    show _ = _
    rw [e7, e8, e9]
  · rw [hO 15 o v 0 ⟨⟨ho, hx⟩, hv, rfl⟩ (by omega)]
    obtain ⟨g, _, q1, q2⟩ := rx15 hR ho hx hv
    refine ⟨g, q1, fun r1 r2 k hk3 => ?_⟩
    rw [e9] at r1
    rw [e8] at r2
    rw [hk 10 (by decide)]
    exact q2 r1 (by omega) k hk3
end XD15
