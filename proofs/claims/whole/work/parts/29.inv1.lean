/-! what every move keeps -/
def Iv (σ : Sg) : Prop := Inv σ ∧ Fr σ
theorem iv_wif {P : Prop} {a b : Int32 × Sg} (ha : P → Iv a.2) (hb : ¬ P → Iv b.2) : Iv (wif P a b).2 := by
  by_cases h : P
  · rw [wif_t h]; exact ha h
  · rw [wif_f h]; exact hb h
theorem InvC_same {σ σ2 : Sg} {u : Nat} (h : ∀ i, i < 162 → σ2 1 (162 * u + i) = σ 1 (162 * u + i)) (hC : InvC σ u) : InvC σ2 u := by
  obtain ⟨a, b, c⟩ := hC
  have eK : cnt σ2 u = cnt σ u := by unfold cnt; rw [h 0 (by omega)]
  have eS : ∀ v, v < 8 → stp σ2 u v = stp σ u v := fun v hv => by unfold stp; rw [h (10 + v) (by omega)]
  refine ⟨by rw [h 0 (by omega), eK]; exact a, by rw [h 1 (by omega), eK]; exact b, fun v hv => ⟨by rw [h (10 + v) (by omega), eS v hv]; exact (c v hv).1, fun n hn => ?_⟩⟩
  rw [eS v hv] at hn
  have h6 := (c v hv).1.2
  have hc := (c v hv).2 n hn
  rw [show 162 * u + (18 + 18 * v + 3 * n) + 1 = 162 * u + (18 + 18 * v + 3 * n + 1) by omega, show 162 * u + (18 + 18 * v + 3 * n) + 2 = 162 * u + (18 + 18 * v + 3 * n + 2) by omega] at hc ⊢
  rw [h _ (by omega), h _ (by omega), h _ (by omega)]
  exact hc
theorem InvO_same {σ σ2 : Sg} {o : Nat} (hC : nC σ ≤ nC σ2) (h7 : σ2 7 o = σ 7 o) (h8 : σ2 8 o = σ 8 o) (h9 : σ2 9 o = σ 9 o) (hle : cnt σ (oC σ o) ≤ cnt σ2 (oC σ o)) (h10 : ∀ v k, v < 8 → k < 8 → σ2 10 (64 * o + 8 * v + k) = σ 10 (64 * o + 8 * v + k)) (hk8 : cnt σ (oC σ o) ≤ 8) (hO : InvO σ o) : InvO σ2 o := by
  obtain ⟨⟨a1, a2⟩, ⟨b1, b2⟩, ⟨c1, c2⟩, d⟩ := hO
  have e7 : oC σ2 o = oC σ o := by unfold oC; rw [h7]
  have e8 : oV σ2 o = oV σ o := by unfold oV; rw [h8]
  have e9 : oF σ2 o = oF σ o := by unfold oF; rw [h9]
  unfold InvO
  rw [e7, e8, e9, h7, h8, h9]
  exact ⟨⟨a1, by omega⟩, ⟨b1, by omega⟩, ⟨c1, c2⟩, fun v k q1 q2 hk => by rw [h10 v k (by omega) hk]; exact d v k q1 q2 hk⟩
/-- the classes alone have moved, and no class lost a version -/
theorem inv_cls {σ σ2 : Sg} (hI : Inv σ) (hk : ∀ k, k ≠ 1 → σ2 k = σ k) (hC : ∀ t, t < nC σ → InvC σ2 t) (hle : ∀ t, t < nC σ → cnt σ t ≤ cnt σ2 t) : Inv σ2 := by
  have eC : nC σ2 = nC σ := by unfold nC; rw [hk 0 (by decide)]
  have eO : nO σ2 = nO σ := by unfold nO; rw [hk 0 (by decide)]
  have eD : ∀ u, dN σ2 u = dN σ u := fun u => by unfold dN; rw [hk 2 (by decide)]
  have efC : ∀ j, fC σ2 j = fC σ j := fun j => by unfold fC; rw [hk 3 (by decide)]
  have efV : ∀ j, fV σ2 j = fV σ j := fun j => by unfold fV; rw [hk 4 (by decide)]
  have eoF : ∀ j, oF σ2 j = oF σ j := fun j => by unfold oF; rw [hk 9 (by decide)]
  obtain ⟨⟨a1, a2⟩, ⟨b1, b2⟩, c, d, e, g⟩ := hI
  refine ⟨⟨by rw [hk 0 (by decide), eC]; exact a1, by rw [eC]; exact a2⟩, ⟨by rw [hk 0 (by decide), eO]; exact b1, by rw [eO]; exact b2⟩, fun t ht => hC t (eC ▸ ht), fun th hth => by rw [eD, hk 2 (by decide)]; exact d th hth, fun j hj hl => ?_, fun o ho => ?_⟩
  · have hl2 : liv σ j := by unfold liv at hl ⊢; rw [eD] at hl; exact hl
    obtain ⟨⟨f1, f2⟩, ⟨f3, f4⟩, f5⟩ := e j hj hl2
    unfold InvF
    rw [efC, efV, eC, eO, hk 3 (by decide), hk 4 (by decide), hk 5 (by decide), hk 6 (by decide), hk 7 (by decide)]
    have := hle _ f2
    exact ⟨⟨f1, f2⟩, ⟨f3, by omega⟩, fun o ho hp => ⟨(f5 o ho hp).1, fun hx => by rw [eoF]; exact (f5 o ho hp).2 hx⟩⟩
  · rw [eO] at ho
    rw [hk 6 (by decide)]
    refine ⟨(g o ho).1, fun hx => ?_⟩
    have hO := (g o ho).2 hx
    exact InvO_same (by rw [eC]; exact Nat.le_refl _) (by rw [hk 7 (by decide)]) (by rw [hk 8 (by decide)]) (by rw [hk 9 (by decide)]) (hle _ hO.1.2) (fun v k _ _ => by rw [hk 10 (by decide)]) (c _ hO.1.2).1.2.2 hO
theorem fr_of {σ σ2 : Sg} (h : Fr σ) (h0 : σ2 0 = σ 0) (h1 : ∀ j, 162 * nC σ ≤ j → σ2 1 j = σ 1 j) : Fr σ2 := by
  have eC : nC σ2 = nC σ := by unfold nC; rw [h0]
  intro j hj hj2
  rw [eC] at hj
  rw [h1 j hj]
  exact h j hj hj2
/-- a move of class t -/
theorem iv_cls1 {σ σ2 : Sg} (hI : Iv σ) {t : Nat} (ht : t < nC σ) (hk : ∀ k, k ≠ 1 → σ2 k = σ k) (h1 : ∀ j, (j < 162 * t ∨ 162 * t + 162 ≤ j) → σ2 1 j = σ 1 j) (hC : InvC σ2 t) (hle : cnt σ t ≤ cnt σ2 t) : Iv σ2 := by
  have e1 : ∀ u, u ≠ t → ∀ i, i < 162 → σ2 1 (162 * u + i) = σ 1 (162 * u + i) := fun u hu i hi => h1 _ (by
    rcases Nat.lt_or_ge u t with q | q
    · left; omega
    · right; omega)
  refine ⟨inv_cls hI.1 hk (fun u hu => ?_) (fun u hu => ?_), fr_of hI.2 (hk 0 (by decide)) (fun j hj => h1 j (by omega))⟩
  · by_cases e : u = t
    · rw [e]; exact hC
    · exact InvC_same (e1 u e) (hI.1.2.2.1 u hu)
  · by_cases e : u = t
    · rw [e]; exact hle
    · unfold cnt; rw [e1 u e 0 (by omega)]; exact Nat.le_refl _
theorem ws0 {σ : Sg} (hI : Inv σ) {x : Int32} (h : ws σ x = 0) : ∃ t, t < nC σ ∧ x = nI t ∧ cN x = t ∧ σ 1 (162 * t + 1) = 1 ∧ cnt σ t ≤ 7 := by
  have h6 := hI.1.2
  rcases ws_cases hI x with ⟨_, q⟩ | ⟨t, _, _, _, q⟩ | ⟨t, ht, e, hn, _⟩
  · rw [q] at h; exact absurd h (by decide)
  · rw [q] at h; exact absurd h (by decide)
  · rcases (hI.2.2.1 t ht).2.1 with z | z
    · exact absurd z hn
    · exact ⟨t, ht, e, by rw [e]; exact nI_clamp (by omega), z.1, z.2⟩
theorem iv_append {σ : Sg} (hI : Iv σ) {t : Nat} (ht : t < nC σ) (h7 : cnt σ t ≤ 7) {K A B F : Int32} (hok : okSt K A B) : Iv (M_append σ t K A B F).2 := by
  obtain ⟨⟨a0, a1, a2⟩, b, c⟩ := hI.1.2.2.1 t ht
  have h6 := (c (cnt σ t) (by omega)).1.2
  rw [M_append]
  refine iv_wif (fun _ => hI) (fun hn => ?_)
  show Iv (mS (mS (mS (mS (mS σ 1 (stB σ t) K) 1 (stB σ t + 1) A) 1 (stB σ t + 2) B) 1 (162 * t + (10 + cnt σ t)) (nI (stp σ t (cnt σ t) + 1))) 1 (162 * t + (2 + cnt σ t)) F)
  generalize hs2 : mS (mS (mS (mS (mS σ 1 (stB σ t) K) 1 (stB σ t + 1) A) 1 (stB σ t + 2) B) 1 (162 * t + (10 + cnt σ t)) (nI (stp σ t (cnt σ t) + 1))) 1 (162 * t + (2 + cnt σ t)) F = σ2
  have h1 : ∀ j, σ2 1 j = if j = 162 * t + (2 + cnt σ t) then F else if j = 162 * t + (10 + cnt σ t) then nI (stp σ t (cnt σ t) + 1) else if j = stB σ t + 2 then B else if j = stB σ t + 1 then A else if j = stB σ t then K else σ 1 j := fun j => by rw [← hs2, m11, m11, m11, m11, m11]
  have hB : stB σ t = 162 * t + (18 + 18 * cnt σ t + 3 * stp σ t (cnt σ t)) := rfl
  have eK : cnt σ2 t = cnt σ t := by
    show cN (σ2 1 (162 * t + 0)) = _
    rw [h1, hB, if_neg (by omega), if_neg (by omega), if_neg (by omega), if_neg (by omega), if_neg (by omega)]; rfl
  have eS : ∀ v, v < 8 → v ≠ cnt σ t → stp σ2 t v = stp σ t v := fun v hv hn => by unfold stp; rw [h1, hB, if_neg (by omega), if_neg (by omega), if_neg (by omega), if_neg (by omega), if_neg (by omega)]
  have eS0 : stp σ2 t (cnt σ t) = stp σ t (cnt σ t) + 1 := by
    show cN (σ2 1 (162 * t + (10 + cnt σ t))) = _
    rw [h1, if_neg (by omega), if_pos rfl]
    exact nI_clamp (by omega)
  refine iv_cls1 hI ht (fun k h => by rw [← hs2, mS_k h, mS_k h, mS_k h, mS_k h, mS_k h]) (fun j hj => by rw [h1, hB, if_neg (by omega), if_neg (by omega), if_neg (by omega), if_neg (by omega), if_neg (by omega)]) ⟨?_, ?_, fun v hv => ?_⟩ (by rw [eK]; exact Nat.le_refl _)
  · rw [eK, h1, hB, if_neg (by omega), if_neg (by omega), if_neg (by omega), if_neg (by omega), if_neg (by omega)]; exact ⟨a0, a1, a2⟩
  · rw [eK, h1, hB, if_neg (by omega), if_neg (by omega), if_neg (by omega), if_neg (by omega), if_neg (by omega)]; exact b
  · by_cases e : v = cnt σ t
    · subst e
      rw [eS0]
      refine ⟨⟨by rw [h1, if_neg (by omega), if_pos rfl], by omega⟩, fun n hn2 => ?_⟩
      by_cases e2 : n = stp σ t (cnt σ t)
      · subst e2
        rw [h1 (162 * t + (18 + 18 * cnt σ t + 3 * stp σ t (cnt σ t))), h1 (162 * t + (18 + 18 * cnt σ t + 3 * stp σ t (cnt σ t)) + 1), h1 (162 * t + (18 + 18 * cnt σ t + 3 * stp σ t (cnt σ t)) + 2), hB]
        rw [if_neg (by omega), if_neg (by omega), if_neg (by omega), if_neg (by omega), if_pos rfl]
        rw [if_neg (by omega), if_neg (by omega), if_neg (by omega), if_pos rfl]
        rw [if_neg (by omega), if_neg (by omega), if_pos rfl]
        exact hok
      · rw [h1 (162 * t + (18 + 18 * cnt σ t + 3 * n)), h1 (162 * t + (18 + 18 * cnt σ t + 3 * n) + 1), h1 (162 * t + (18 + 18 * cnt σ t + 3 * n) + 2), hB]
        rw [if_neg (by omega), if_neg (by omega), if_neg (by omega), if_neg (by omega), if_neg (by omega)]
        rw [if_neg (by omega), if_neg (by omega), if_neg (by omega), if_neg (by omega), if_neg (by omega)]
        rw [if_neg (by omega), if_neg (by omega), if_neg (by omega), if_neg (by omega), if_neg (by omega)]
        exact (c _ hv).2 n (by omega)
    · have hv6 := (c v hv).1.2
      rw [eS v hv e]
      refine ⟨⟨?_, hv6⟩, fun n hn2 => ?_⟩
      · rw [h1, hB, if_neg (by omega), if_neg (by omega), if_neg (by omega), if_neg (by omega), if_neg (by omega)]; exact (c v hv).1.1
      · rw [h1 (162 * t + (18 + 18 * v + 3 * n)), h1 (162 * t + (18 + 18 * v + 3 * n) + 1), h1 (162 * t + (18 + 18 * v + 3 * n) + 2), hB]
        have hd : v < cnt σ t ∨ cnt σ t < v := by omega
        rw [if_neg (by omega), if_neg (by omega), if_neg (by omega), if_neg (by omega), if_neg (by omega)]
        rw [if_neg (by omega), if_neg (by omega), if_neg (by omega), if_neg (by omega), if_neg (by omega)]
        rw [if_neg (by omega), if_neg (by omega), if_neg (by omega), if_neg (by omega), if_neg (by omega)]
        exact (c v hv).2 n hn2
theorem iv_addField {σ : Sg} (hI : Iv σ) (type field value : Int32) : Iv (M_addField σ type field value).2 := by
  rw [M_addField]
  refine iv_wif (fun h => iv_wif (fun h2 => iv_wif (fun _ => hI) (fun _ => ?_)) (fun _ => hI)) (fun _ => hI)
  obtain ⟨t, ht, _, e, _, h7⟩ := ws0 hI.1 h
  rw [e]
  exact iv_append hI ht h7 ⟨h2.1, Or.inl ⟨rfl, h2.2⟩⟩
theorem iv_dropField {σ : Sg} (hI : Iv σ) (type field : Int32) : Iv (M_dropField σ type field).2 := by
  rw [M_dropField]
  refine iv_wif (fun h => iv_wif (fun h2 => ?_) (fun _ => hI)) (fun _ => hI)
  obtain ⟨t, ht, _, e, _, h7⟩ := ws0 hI.1 h
  rw [e]
  exact iv_append hI ht h7 ⟨h2.1, Or.inr (Or.inl rfl)⟩
theorem iv_renameField {σ : Sg} (hI : Iv σ) (type fr to : Int32) : Iv (M_renameField σ type fr to).2 := by
  rw [M_renameField]
  refine iv_wif (fun h => iv_wif (fun h2 => iv_wif (fun h3 => iv_wif (fun _ => hI) (fun _ => ?_)) (fun _ => hI)) (fun _ => hI)) (fun _ => hI)
  obtain ⟨t, ht, _, e, _, h7⟩ := ws0 hI.1 h
  rw [e]
  exact iv_append hI ht h7 ⟨h2.1, Or.inr (Or.inr (Or.inl ⟨rfl, h3⟩))⟩
theorem iv_scaleField {σ : Sg} (hI : Iv σ) (type field factor : Int32) : Iv (M_scaleField σ type field factor).2 := by
  rw [M_scaleField]
  refine iv_wif (fun h => iv_wif (fun h2 => iv_wif (fun h3 => ?_) (fun _ => hI)) (fun _ => hI)) (fun _ => hI)
  obtain ⟨t, ht, _, e, _, h7⟩ := ws0 hI.1 h
  rw [e]
  exact iv_append hI ht h7 ⟨h2.1, Or.inr (Or.inr (Or.inr (Or.inl ⟨rfl, h3⟩)))⟩
theorem iv_mergeField {σ : Sg} (hI : Iv σ) (type fr into : Int32) : Iv (M_mergeField σ type fr into).2 := by
  rw [M_mergeField]
  refine iv_wif (fun h => iv_wif (fun h2 => iv_wif (fun _ => hI) (fun _ => ?_)) (fun _ => hI)) (fun _ => hI)
  obtain ⟨t, ht, _, e, _, h7⟩ := ws0 hI.1 h
  rw [e]
  exact iv_append hI ht h7 ⟨h2.1.1, Or.inr (Or.inr (Or.inr (Or.inr ⟨rfl, h2.2.1⟩)))⟩
/-- the count and the mark of a class -/
theorem iv_hist {σ σ2 : Sg} (hI : Iv σ) {t : Nat} (ht : t < nC σ) (hk : ∀ k, k ≠ 1 → σ2 k = σ k) (h1 : ∀ j, j ≠ 162 * t + 0 → j ≠ 162 * t + 1 → σ2 1 j = σ 1 j) (h0 : σ2 1 (162 * t + 0) = nI (cnt σ2 t) ∧ 1 ≤ cnt σ2 t ∧ cnt σ2 t ≤ 8) (hs : σ2 1 (162 * t + 1) = 0 ∨ (σ2 1 (162 * t + 1) = 1 ∧ cnt σ2 t ≤ 7)) (hle : cnt σ t ≤ cnt σ2 t) : Iv σ2 := by
  obtain ⟨_, _, c⟩ := hI.1.2.2.1 t ht
  have eS : ∀ v, v < 8 → stp σ2 t v = stp σ t v := fun v hv => by unfold stp; rw [h1 _ (by omega) (by omega)]
  refine iv_cls1 hI ht hk (fun j hj => h1 j (by omega) (by omega)) ⟨h0, hs, fun v hv => ?_⟩ hle
  rw [eS v hv, h1 (162 * t + (10 + v)) (by omega) (by omega)]
  exact ⟨(c v hv).1, fun n hn => by rw [h1 (162 * t + (18 + 18 * v + 3 * n)) (by omega) (by omega), h1 (162 * t + (18 + 18 * v + 3 * n) + 1) (by omega) (by omega), h1 (162 * t + (18 + 18 * v + 3 * n) + 2) (by omega) (by omega)]; exact (c v hv).2 n hn⟩
theorem iv_activate {σ : Sg} (hI : Iv σ) (type : Int32) : Iv (M_activate σ type).2 := by
  rw [M_activate]
  refine iv_wif (fun h => ?_) (fun _ => hI)
  obtain ⟨t, ht, _, e, _, h7⟩ := ws0 hI.1 h
  rw [e]
  show Iv (mS (mS σ 1 (162 * t + 1) 0) 1 (162 * t + 0) (nI (cnt σ t + 1)))
  have eK : cnt (mS (mS σ 1 (162 * t + 1) 0) 1 (162 * t + 0) (nI (cnt σ t + 1))) t = cnt σ t + 1 := by
    unfold cnt
    rw [m11, if_pos rfl]
    exact nI_clamp (show cnt σ t + 1 < 2 ^ 31 by omega)
  refine iv_hist hI ht (fun k h => by rw [mS_k h, mS_k h]) (fun j h h2 => by rw [m11, if_neg h, m11, if_neg h2]) ?_ (Or.inl (by rw [m11, if_neg (by omega), m11, if_pos rfl])) (by rw [eK]; omega)
  rw [eK, m11, if_pos rfl]
  exact ⟨rfl, by omega, by omega⟩
theorem iv_discard {σ : Sg} (hI : Iv σ) (type : Int32) : Iv (M_discard σ type).2 := by
  rw [M_discard]
  refine iv_wif (fun h => ?_) (fun _ => hI)
  obtain ⟨t, ht, _, e, _, h7⟩ := ws0 hI.1 h
  rw [e]
  show Iv (mS σ 1 (162 * t + 1) 0)
  have eK : cnt (mS σ 1 (162 * t + 1) 0) t = cnt σ t := by
    unfold cnt
    rw [m11, if_neg (by omega)]
  refine iv_hist hI ht (fun k h => by rw [mS_k h]) (fun j h h2 => by rw [m11, if_neg h2]) ?_ (Or.inl (by rw [m11, if_pos rfl])) (by rw [eK]; exact Nat.le_refl _)
  rw [eK, m11, if_neg (by omega)]
  exact (hI.1.2.2.1 t ht).1
theorem iv_stage {σ : Sg} (hI : Iv σ) (type : Int32) : Iv (M_stage σ type).2 := by
  rw [M_stage]
  refine iv_wif (fun h => iv_wif (fun _ => hI) (fun _ => iv_wif (fun _ => hI) (fun h8 => ?_))) (fun _ => hI)
  obtain ⟨t, ht, rfl⟩ := h
  have h6 := hI.1.1.2
  have ct : cN (nI t) = t := nI_clamp (by omega)
  rw [ct] at h8 ⊢
  obtain ⟨⟨a0, a1, a2⟩, b, c⟩ := hI.1.2.2.1 t ht
  show Iv (mS (mS (mS σ 1 (162 * t + 1) 1) 1 (162 * t + (2 + cnt σ t)) (σ 1 (162 * t + (2 + cnt σ t - 1)))) 1 (162 * t + (10 + cnt σ t)) 0)
  generalize hs2 : mS (mS (mS σ 1 (162 * t + 1) 1) 1 (162 * t + (2 + cnt σ t)) (σ 1 (162 * t + (2 + cnt σ t - 1)))) 1 (162 * t + (10 + cnt σ t)) 0 = σ2
  have h1 : ∀ j, σ2 1 j = if j = 162 * t + (10 + cnt σ t) then 0 else if j = 162 * t + (2 + cnt σ t) then σ 1 (162 * t + (2 + cnt σ t - 1)) else if j = 162 * t + 1 then 1 else σ 1 j := fun j => by rw [← hs2, m11, m11, m11]
  have eS : ∀ v, v < 8 → v ≠ cnt σ t → stp σ2 t v = stp σ t v := fun v hv hn => by unfold stp; rw [h1, if_neg (by omega), if_neg (by omega), if_neg (by omega)]
  have eS0 : stp σ2 t (cnt σ t) = 0 := by unfold stp; rw [h1, if_pos rfl]; rfl
  have eK : cnt σ2 t = cnt σ t := by
    show cN (σ2 1 (162 * t + 0)) = _
    rw [h1, if_neg (by omega), if_neg (by omega), if_neg (by omega)]; rfl
  refine iv_cls1 hI ht (fun k h => by rw [← hs2, mS_k h, mS_k h, mS_k h]) (fun j hj => by rw [h1, if_neg (by omega), if_neg (by omega), if_neg (by omega)]) ⟨?_, Or.inr ⟨?_, ?_⟩, fun v hv => ?_⟩ (by rw [eK]; exact Nat.le_refl _)
  · rw [eK, h1, if_neg (by omega), if_neg (by omega), if_neg (by omega)]; exact ⟨a0, a1, a2⟩
  · rw [h1, if_neg (by omega), if_neg (by omega), if_pos rfl]
  · rw [eK]; omega
  · by_cases e : v = cnt σ t
    · subst e
      rw [eS0]
      exact ⟨⟨by rw [h1, if_pos rfl]; rfl, by omega⟩, fun n hn => by omega⟩
    · rw [eS v hv e]
      refine ⟨⟨?_, (c v hv).1.2⟩, fun n hn2 => ?_⟩
      · rw [h1, if_neg (by omega), if_neg (by omega), if_neg (by omega)]; exact (c v hv).1.1
      · rw [h1 (162 * t + (18 + 18 * v + 3 * n)), h1 (162 * t + (18 + 18 * v + 3 * n) + 1), h1 (162 * t + (18 + 18 * v + 3 * n) + 2)]
        rw [if_neg (by omega), if_neg (by omega), if_neg (by omega)]
        rw [if_neg (by omega), if_neg (by omega), if_neg (by omega)]
        rw [if_neg (by omega), if_neg (by omega), if_neg (by omega)]
        exact (c v hv).2 n hn2
