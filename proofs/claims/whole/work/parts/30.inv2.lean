theorem iv_addClass {σ : Sg} (hI : Iv σ) (fields : Int32) : Iv (M_addClass σ fields).2 := by
  rw [M_addClass]
  refine iv_wif (fun _ => iv_wif (fun _ => hI) (fun h6 => ?_)) (fun _ => hI)
  have hC6 := hI.1.1.2
  show Iv (mS (mS (mS σ 1 (162 * nC σ + 0) 1) 1 (162 * nC σ + 2) fields) 0 0 (nI (nC σ + 1)))
  generalize hs2 : mS (mS (mS σ 1 (162 * nC σ + 0) 1) 1 (162 * nC σ + 2) fields) 0 0 (nI (nC σ + 1)) = σ2
  have h1 : ∀ j, σ2 1 j = if j = 162 * nC σ + 2 then fields else if j = 162 * nC σ + 0 then 1 else σ 1 j := fun j => by rw [← hs2, mS_k (by decide), m11, m11]
  have hk : ∀ k, k ≠ 0 → k ≠ 1 → σ2 k = σ k := fun k h h2 => by rw [← hs2, mS_k h, mS_k h2, mS_k h2]
  have eC : nC σ2 = nC σ + 1 := by
    show cN (σ2 0 0) = _
    rw [← hs2, mS_eq]
    exact nI_clamp (by omega)
  have e01 : σ2 0 1 = σ 0 1 := by rw [← hs2, mS_ne _ _ _ (by decide), mS_k (by decide), mS_k (by decide)]
  have e00 : σ2 0 0 = nI (nC σ + 1) := by rw [← hs2, mS_eq]
  have eO : nO σ2 = nO σ := by unfold nO; rw [e01]
  have e1 : ∀ u, u < nC σ → ∀ i, i < 162 → σ2 1 (162 * u + i) = σ 1 (162 * u + i) := fun u hu i hi => by rw [h1, if_neg (by omega), if_neg (by omega)]
  have eK : ∀ u, u < nC σ → cnt σ2 u = cnt σ u := fun u hu => by unfold cnt; rw [e1 u hu 0 (by omega)]
  have z1 : ∀ i, i < 162 → i ≠ 0 → i ≠ 2 → σ2 1 (162 * nC σ + i) = 0 := fun i hi h h2 => by rw [h1, if_neg (by omega), if_neg (by omega)]; exact hI.2 _ (by omega) (by omega)
  have zS : ∀ v, v < 8 → stp σ2 (nC σ) v = 0 := fun v hv => by unfold stp; rw [z1 (10 + v) (by omega) (by omega) (by omega)]; rfl
  have zK : cnt σ2 (nC σ) = 1 := by
    show cN (σ2 1 (162 * nC σ + 0)) = 1
    rw [h1, if_neg (by omega), if_pos rfl]; rfl
  obtain ⟨⟨⟨a1, a2⟩, ⟨b1, b2⟩, c, d, e, g⟩, hF⟩ := hI
  have efC : ∀ j, fC σ2 j = fC σ j := fun j => by unfold fC; rw [hk 3 (by decide) (by decide)]
  have efV : ∀ j, fV σ2 j = fV σ j := fun j => by unfold fV; rw [hk 4 (by decide) (by decide)]
  have eoF : ∀ j, oF σ2 j = oF σ j := fun j => by unfold oF; rw [hk 9 (by decide) (by decide)]
  have eD : ∀ u, dN σ2 u = dN σ u := fun u => by unfold dN; rw [hk 2 (by decide) (by decide)]
  refine ⟨⟨⟨by rw [e00, eC], by rw [eC]; omega⟩, ⟨by rw [e01, eO]; exact b1, by rw [eO]; exact b2⟩, fun t ht => ?_, fun th hth => by rw [eD, hk 2 (by decide) (by decide)]; exact d th hth, fun j hj hl => ?_, fun o ho => ?_⟩, fun j hj hj2 => ?_⟩
  · rw [eC] at ht
    by_cases q : t = nC σ
    · rw [q]
      refine ⟨⟨by rw [zK, h1, if_neg (by omega), if_pos rfl]; rfl, by omega, by omega⟩, Or.inl (z1 1 (by decide) (by decide) (by decide)), fun v hv => ⟨⟨by rw [zS v hv, z1 (10 + v) (by omega) (by omega) (by omega)]; rfl, by rw [zS v hv]; omega⟩, fun n hn => by rw [zS v hv] at hn; omega⟩⟩
    · exact InvC_same (e1 t (by omega)) (c t (by omega))
  · have hl2 : liv σ j := by unfold liv at hl ⊢; rw [eD] at hl; exact hl
    obtain ⟨⟨f1, f2⟩, ⟨f3, f4⟩, f5⟩ := e j hj hl2
    unfold InvF
    rw [efC, efV, eC, eO, hk 3 (by decide) (by decide), hk 4 (by decide) (by decide), hk 5 (by decide) (by decide), hk 6 (by decide) (by decide), hk 7 (by decide) (by decide), eK _ f2]
    exact ⟨⟨f1, by omega⟩, ⟨f3, f4⟩, fun o ho hp => ⟨(f5 o ho hp).1, fun hx => by rw [eoF]; exact (f5 o ho hp).2 hx⟩⟩
  · rw [eO] at ho
    rw [hk 6 (by decide) (by decide)]
    refine ⟨(g o ho).1, fun hx => ?_⟩
    have hO := (g o ho).2 hx
    exact InvO_same (by rw [eC]; omega) (by rw [hk 7 (by decide) (by decide)]) (by rw [hk 8 (by decide) (by decide)]) (by rw [hk 9 (by decide) (by decide)]) (by rw [eK _ hO.1.2]; exact Nat.le_refl _) (fun v k _ _ => by rw [hk 10 (by decide) (by decide)]) (c _ hO.1.2).1.2.2 hO
  · rw [eC] at hj
    rw [h1, if_neg (by omega), if_neg (by omega)]
    exact hF j (by omega) hj2
/-- the threads alone have moved -/
theorem iv_thr {σ σ2 : Sg} (hI : Iv σ) (hk : ∀ k, (k < 2 ∨ 6 ≤ k) → σ2 k = σ k) (hD : ∀ th, th < 4 → σ2 2 th = nI (dN σ2 th) ∧ dN σ2 th ≤ 8) (hF : ∀ j, j < 32 → liv σ2 j → InvF σ2 j) : Iv σ2 := by
  have k0 := hk 0 (by decide)
  have k1 := hk 1 (by decide)
  have k6 := hk 6 (by decide)
  have eC : nC σ2 = nC σ := by unfold nC; rw [k0]
  have eO : nO σ2 = nO σ := by unfold nO; rw [k0]
  have eK : ∀ u, cnt σ2 u = cnt σ u := fun u => by unfold cnt; rw [k1]
  obtain ⟨⟨⟨a1, a2⟩, ⟨b1, b2⟩, c, d, e, g⟩, hF2⟩ := hI
  refine ⟨⟨⟨by rw [k0, eC]; exact a1, by rw [eC]; exact a2⟩, ⟨by rw [k0, eO]; exact b1, by rw [eO]; exact b2⟩, fun t ht => InvC_same (fun i _ => by rw [k1]) (c t (eC ▸ ht)), hD, hF, fun o ho => ?_⟩, fr_of hF2 k0 (fun j _ => by rw [k1])⟩
  rw [eO] at ho
  rw [k6]
  refine ⟨(g o ho).1, fun hx => ?_⟩
  have hO := (g o ho).2 hx
  exact InvO_same (by rw [eC]; exact Nat.le_refl _) (by rw [hk 7 (by decide)]) (by rw [hk 8 (by decide)]) (by rw [hk 9 (by decide)]) (by rw [eK]; exact Nat.le_refl _) (fun v k _ _ => by rw [hk 10 (by decide)]) (c _ hO.1.2).1.2.2 hO
theorem pin_0 {u : Nat} (hu : u < 32) : ¬ pinB 0 (nI u) := by
  rw [bit_at _ hu]
  show ¬ (0#32).getLsbD u = true
  simp
theorem iv_call {σ : Sg} (hI : Iv σ) (thread type : Int32) : Iv (M_call σ thread type).2 := by
  rw [M_call]
  refine iv_wif (fun h1 => iv_wif (fun h2 => iv_wif (fun _ => hI) (fun h8 => ?_)) (fun _ => hI)) (fun _ => hI)
  obtain ⟨th, hth, rfl⟩ := h1
  obtain ⟨t, ht, rfl⟩ := h2
  have hC6 := hI.1.1.2
  have ct : cN (nI th) = th := nI_clamp (by omega)
  have cc : cN (nI t) = t := nI_clamp (by omega)
  rw [ct] at h8
  rw [ct, cc]
  have hd8 := (hI.1.2.2.2.1 th hth).2
  have hk := (hI.1.2.2.1 t ht).1
  show Iv (mS (mS (mS (mS σ 3 (8 * th + dN σ th) (nI t)) 4 (8 * th + dN σ th) (nI (cnt σ t) - 1)) 5 (8 * th + dN σ th) 0) 2 th (nI (dN σ th + 1)))
  generalize hs2 : mS (mS (mS (mS σ 3 (8 * th + dN σ th) (nI t)) 4 (8 * th + dN σ th) (nI (cnt σ t) - 1)) 5 (8 * th + dN σ th) 0) 2 th (nI (dN σ th + 1)) = σ2
  have hk2 : ∀ k, (k < 2 ∨ 6 ≤ k) → σ2 k = σ k := fun k h => by rw [← hs2, mS_k (by omega), mS_k (by omega), mS_k (by omega), mS_k (by omega)]
  have h2 : ∀ j, σ2 2 j = if j = th then nI (dN σ th + 1) else σ 2 j := fun j => by rw [← hs2, mk1, mS_k (by omega), mS_k (by omega), mS_k (by omega)]
  have h3 : ∀ j, σ2 3 j = if j = 8 * th + dN σ th then nI t else σ 3 j := fun j => by rw [← hs2, mS_k (by omega), mS_k (by omega), mS_k (by omega), mk1]
  have h4 : ∀ j, σ2 4 j = if j = 8 * th + dN σ th then nI (cnt σ t) - 1 else σ 4 j := fun j => by rw [← hs2, mS_k (by omega), mS_k (by omega), mk1, mS_k (by omega)]
  have h5 : ∀ j, σ2 5 j = if j = 8 * th + dN σ th then 0 else σ 5 j := fun j => by rw [← hs2, mS_k (by omega), mk1, mS_k (by omega), mS_k (by omega)]
  have eD : dN σ2 th = dN σ th + 1 := by unfold dN; rw [h2, if_pos rfl]; exact nI_clamp (show dN σ th + 1 < 2 ^ 31 by omega)
  have eDu : ∀ u, u ≠ th → dN σ2 u = dN σ u := fun u hu => by unfold dN; rw [h2, if_neg hu]
  have hc1 : nI (cnt σ t) - 1 = nI (cnt σ t - 1) := pk_sub (a := cnt σ t) (b := 1) hk.2.1
  have eC : nC σ2 = nC σ := by unfold nC; rw [hk2 0 (by decide)]
  have eO : nO σ2 = nO σ := by unfold nO; rw [hk2 0 (by decide)]
  have eK : ∀ u, cnt σ2 u = cnt σ u := fun u => by unfold cnt; rw [hk2 1 (by decide)]
  have eoF : ∀ j, oF σ2 j = oF σ j := fun j => by unfold oF; rw [hk2 9 (by decide)]
  refine iv_thr hI hk2 (fun u hu => ?_) (fun j hj hl => ?_)
  · by_cases e : u = th
    · subst e; rw [eD, h2, if_pos rfl]; exact ⟨rfl, by omega⟩
    · rw [eDu u e, h2, if_neg e]; exact hI.1.2.2.2.1 u hu
  · by_cases e : j = 8 * th + dN σ th
    · have e3 : fC σ2 j = t := by unfold fC; rw [h3, if_pos e]; exact cc
      have e4 : fV σ2 j = cnt σ t - 1 := by unfold fV; rw [h4, if_pos e, hc1]; exact nI_clamp (by omega)
      unfold InvF
      rw [e3, e4, eC, eK, h3, h4, h5, if_pos e, if_pos e, if_pos e]
      exact ⟨⟨rfl, ht⟩, ⟨hc1, by omega⟩, fun o ho hp => absurd hp (pin_0 (by omega))⟩
    · have hl2 : liv σ j := by
        unfold liv at hl ⊢
        by_cases q : j / 8 = th
        · rw [q] at hl ⊢; rw [eD] at hl; omega
        · rw [eDu _ q] at hl; exact hl
      have e3 : fC σ2 j = fC σ j := by unfold fC; rw [h3, if_neg e]
      have e4 : fV σ2 j = fV σ j := by unfold fV; rw [h4, if_neg e]
      obtain ⟨⟨f1, f2⟩, ⟨f3, f4⟩, f5⟩ := hI.1.2.2.2.2.1 j hj hl2
      unfold InvF
      rw [e3, e4, eC, eO, eK, h3, h4, h5, if_neg e, if_neg e, if_neg e, hk2 6 (by decide), hk2 7 (by decide)]
      exact ⟨⟨f1, f2⟩, ⟨f3, f4⟩, fun o ho hp => ⟨(f5 o ho hp).1, fun hx => by rw [eoF]; exact (f5 o ho hp).2 hx⟩⟩
theorem iv_finish {σ : Sg} (hI : Iv σ) (thread : Int32) : Iv (M_finish σ thread).2 := by
  rw [M_finish]
  refine iv_wif (fun h1 => iv_wif (fun _ => hI) (fun h0 => ?_)) (fun _ => hI)
  obtain ⟨th, hth, rfl⟩ := h1
  have ct : cN (nI th) = th := nI_clamp (by omega)
  rw [ct] at h0
  rw [ct]
  have hd8 := (hI.1.2.2.2.1 th hth).2
  show Iv (mS σ 2 th (nI (dN σ th - 1)))
  generalize hs2 : mS σ 2 th (nI (dN σ th - 1)) = σ2
  have hk2 : ∀ k, k ≠ 2 → σ2 k = σ k := fun k h => by rw [← hs2, mS_k h]
  have h2 : ∀ j, σ2 2 j = if j = th then nI (dN σ th - 1) else σ 2 j := fun j => by rw [← hs2, mk1]
  have eD : dN σ2 th = dN σ th - 1 := by unfold dN; rw [h2, if_pos rfl]; exact nI_clamp (show dN σ th - 1 < 2 ^ 31 by omega)
  have eDu : ∀ u, u ≠ th → dN σ2 u = dN σ u := fun u hu => by unfold dN; rw [h2, if_neg hu]
  have eC : nC σ2 = nC σ := by unfold nC; rw [hk2 0 (by decide)]
  have eO : nO σ2 = nO σ := by unfold nO; rw [hk2 0 (by decide)]
  have eK : ∀ u, cnt σ2 u = cnt σ u := fun u => by unfold cnt; rw [hk2 1 (by decide)]
  have eoF : ∀ j, oF σ2 j = oF σ j := fun j => by unfold oF; rw [hk2 9 (by decide)]
  have efC : ∀ j, fC σ2 j = fC σ j := fun j => by unfold fC; rw [hk2 3 (by decide)]
  have efV : ∀ j, fV σ2 j = fV σ j := fun j => by unfold fV; rw [hk2 4 (by decide)]
  refine iv_thr hI (fun k h => hk2 k (by omega)) (fun u hu => ?_) (fun j hj hl => ?_)
  · by_cases e : u = th
    · subst e; rw [eD, h2, if_pos rfl]; exact ⟨rfl, by omega⟩
    · rw [eDu u e, h2, if_neg e]; exact hI.1.2.2.2.1 u hu
  · have hl2 : liv σ j := by
      unfold liv at hl ⊢
      by_cases q : j / 8 = th
      · rw [q] at hl ⊢; rw [eD] at hl; omega
      · rw [eDu _ q] at hl; exact hl
    obtain ⟨⟨f1, f2⟩, ⟨f3, f4⟩, f5⟩ := hI.1.2.2.2.2.1 j hj hl2
    unfold InvF
    rw [efC, efV, eC, eO, eK, hk2 3 (by decide), hk2 4 (by decide), hk2 5 (by decide), hk2 6 (by decide), hk2 7 (by decide)]
    exact ⟨⟨f1, f2⟩, ⟨f3, f4⟩, fun o ho hp => ⟨(f5 o ho hp).1, fun hx => by rw [eoF]; exact (f5 o ho hp).2 hx⟩⟩
/-- a pin more -/
theorem iv_pin {σ : Sg} (hI : Iv σ) {j o : Nat} (hj : j < 32) (hl : liv σ j) (ho : o < nO σ) (h7 : σ 6 o = 1 → σ 7 o = σ 3 j ∧ oF σ o ≤ fV σ j) : Iv (pinS σ j o) := by
  have hO24 := hI.1.2.1.2
  unfold pinS
  generalize hs2 : mS σ 5 j (σ 5 j ||| (1 : Int32) <<< (nI o &&& 31)) = σ2
  have hk2 : ∀ k, k ≠ 5 → σ2 k = σ k := fun k h => by rw [← hs2, mS_k h]
  have h5 : ∀ i, σ2 5 i = if i = j then σ 5 j ||| (1 : Int32) <<< (nI o &&& 31) else σ 5 i := fun i => by rw [← hs2, mk1]
  have eC : nC σ2 = nC σ := by unfold nC; rw [hk2 0 (by decide)]
  have eO : nO σ2 = nO σ := by unfold nO; rw [hk2 0 (by decide)]
  have eK : ∀ u, cnt σ2 u = cnt σ u := fun u => by unfold cnt; rw [hk2 1 (by decide)]
  have eoF : ∀ j, oF σ2 j = oF σ j := fun j => by unfold oF; rw [hk2 9 (by decide)]
  have efC : ∀ j, fC σ2 j = fC σ j := fun j => by unfold fC; rw [hk2 3 (by decide)]
  have efV : ∀ j, fV σ2 j = fV σ j := fun j => by unfold fV; rw [hk2 4 (by decide)]
  have eD : ∀ u, dN σ2 u = dN σ u := fun u => by unfold dN; rw [hk2 2 (by decide)]
  refine iv_thr hI (fun k h => hk2 k (by omega)) (fun u hu => by rw [eD, hk2 2 (by decide)]; exact hI.1.2.2.2.1 u hu) (fun i hi hl2 => ?_)
  have hl3 : liv σ i := by unfold liv at hl2 ⊢; rw [eD] at hl2; exact hl2
  obtain ⟨⟨f1, f2⟩, ⟨f3, f4⟩, f5⟩ := hI.1.2.2.2.2.1 i hi hl3
  unfold InvF
  rw [efC, efV, eC, eO, eK, hk2 3 (by decide), hk2 4 (by decide), h5, hk2 6 (by decide), hk2 7 (by decide)]
  refine ⟨⟨f1, f2⟩, ⟨f3, f4⟩, fun u hu hp => ?_⟩
  rw [eoF]
  by_cases e : i = j
  · subst e
    rw [if_pos rfl] at hp
    rcases (pin_or _ (by omega) (by omega)).mp hp with q | q
    · exact f5 u hu q
    · rw [q]; exact ⟨ho, h7⟩
  · rw [if_neg e] at hp
    exact f5 u hu hp
