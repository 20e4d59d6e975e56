/-! a thread's moves, an object's moves -/
section RXT
variable {G : hG} {L : List Nat} {f : Nat → va_E} {ad : xAd} {σ : Sg}
/-- a change of thread th alone -/
theorem RX_thr (hI : Inv σ) (hR : RX G L f ad σ) {L2 : List Nat} {f2 : Nat → va_E} {ad2 : xAd} {σ2 : Sg} {th k0 : Nat} (hth : th < 4) (hk : ∀ k, (k < 2 ∨ 6 ≤ k) → σ2 k = σ k) (hD : ∀ u, u ≠ th → σ2 2 u = σ 2 u) (hfr : ∀ k, 3 ≤ k → k ≤ 5 → ∀ j, j / 8 ≠ th → σ2 k j = σ k j) (hL : ∀ x, x ∈ L → x ∈ L2)
    (had : ∀ a b c d, XL σ a b c d → ad2 a b c d = ad a b c d) (hf : ∀ a b c d, XL σ a b c d → ¬ (b = th ∧ 10 ≤ a ∧ a ≤ 12) → f2 (ad a b c d) = f (ad a b c d))
    (hst : ∀ k, k < dN σ2 th → k < dN σ th ∨ (k = k0 ∧ ad2 12 th k0 0 ∉ L ∧ ad2 12 th k0 0 ∈ L2))
    (c10 : XC G ad2 σ2 10 th 0 0 (f2 (ad2 10 th 0 0))) (c11 : XC G ad2 σ2 11 th 0 0 (f2 (ad2 11 th 0 0))) (c12 : ∀ k, k < dN σ2 th → XC G ad2 σ2 12 th k 0 (f2 (ad2 12 th k 0))) : RX G L2 f2 ad2 σ2 := by
  have k0' := hk 0 (by decide)
  have k1 := hk 1 (by decide)
  have k6 := hk 6 (by decide)
  have k7 := hk 7 (by decide)
  have k8 := hk 8 (by decide)
  have k9 := hk 9 (by decide)
  have k10 := hk 10 (by decide)
  have eC : nC σ2 = nC σ := by unfold nC; rw [k0']
  have eO : nO σ2 = nO σ := by unfold nO; rw [k0']
  have eD : ∀ u, u ≠ th → dN σ2 u = dN σ u := fun u hu => by unfold dN; rw [hD u hu]
  have efC : ∀ j, j / 8 ≠ th → fC σ2 j = fC σ j := fun j hj => by unfold fC; rw [hfr 3 (by decide) (by decide) j hj]
  have efV : ∀ j, j / 8 ≠ th → fV σ2 j = fV σ j := fun j hj => by unfold fV; rw [hfr 4 (by decide) (by decide) j hj]
  have eoC : ∀ j, oC σ2 j = oC σ j := fun j => by unfold oC; rw [k7]
  have eoV : ∀ j, oV σ2 j = oV σ j := fun j => by unfold oV; rw [k8]
  have eoF : ∀ j, oF σ2 j = oF σ j := fun j => by unfold oF; rw [k9]
  have eK : ∀ u, cnt σ2 u = cnt σ u := fun u => by unfold cnt; rw [k1]
  have eS : ∀ u v, stp σ2 u v = stp σ u v := fun u v => by unfold stp; rw [k1]
  have live : ∀ a b c d, XL σ2 a b c d → XL σ a b c d ∨ ((a = 12 ∧ b = th ∧ c = k0 ∧ d = 0) ∧ ad2 a b c d ∉ L ∧ ad2 a b c d ∈ L2) := by
    refine rx_cases σ2 (Or.inl ⟨rfl, rfl, rfl⟩) (Or.inl ⟨rfl, rfl, rfl⟩) (Or.inl ⟨rfl, rfl, rfl⟩) (Or.inl ⟨rfl, rfl, rfl⟩) (fun u hu => Or.inl ⟨eC ▸ hu, rfl, rfl⟩) (fun u hu => Or.inl ⟨eC ▸ hu, rfl, rfl⟩) (fun u hu => Or.inl ⟨eC ▸ hu, rfl, rfl⟩) (fun u v hu hv => Or.inl ⟨eC ▸ hu, hv, rfl⟩) (fun u v hu hv => Or.inl ⟨eC ▸ hu, hv, rfl⟩) (fun u v n hu hv hn => Or.inl ⟨eC ▸ hu, hv, eS u v ▸ hn⟩) (fun u hu => Or.inl ⟨hu, rfl, rfl⟩) (fun u hu => Or.inl ⟨hu, rfl, rfl⟩) (fun u k hu hk2 => ?_) (fun o ho hx => Or.inl ⟨⟨eO ▸ ho, by rw [← k6]; exact hx⟩, rfl, rfl⟩) (fun o ho hx => Or.inl ⟨⟨eO ▸ ho, by rw [← k6]; exact hx⟩, rfl, rfl⟩) (fun o v ho hx hv => Or.inl ⟨⟨eO ▸ ho, by rw [← k6]; exact hx⟩, hv, rfl⟩)
    by_cases e : u = th
    · subst e
      rcases hst k hk2 with q | ⟨q2, q3, q4⟩
      · exact Or.inl ⟨hu, q, rfl⟩
      · subst q2
        exact Or.inr ⟨⟨rfl, rfl, rfl, rfl⟩, q3, q4⟩
    · rw [eD u e] at hk2
      exact Or.inl ⟨hu, hk2, rfl⟩
  refine RX_gen hR (fun a b c d => a = 12 ∧ b = th ∧ c = k0 ∧ d = 0) hL (fun a b c d h => ?_) (fun a b c d a2 b2 c2 d2 _ _ q u _ => by omega) ?_
  · rcases live a b c d h with q | q
    · exact Or.inl ⟨q, had a b c d q⟩
    · exact Or.inr q
  · have A : ∀ a b c d, XL σ a b c d → ¬ (b = th ∧ 10 ≤ a ∧ a ≤ 12) → f2 (ad2 a b c d) = f (ad a b c d) := fun a b c d h hn => by rw [had a b c d h]; exact hf a b c d h hn
    refine rx_cases σ2 ?_ ?_ ?_ ?_ (fun u hu => ?_) (fun u hu => ?_) (fun u hu => ?_) (fun u v hu hv => ?_) (fun u v hu hv => ?_) (fun u v n hu hv hn => ?_) (fun u hu => ?_) (fun u hu => ?_) (fun u k hu hk2 => ?_) (fun o ho hx => ?_) (fun o ho hx => ?_) (fun o v ho hx hv => ?_)
    · rw [A 0 0 0 0 ⟨rfl, rfl, rfl⟩ (by omega), (rx0 hR).2]
      show _ = _
      rw [eC, eO, had 1 0 0 0 ⟨rfl, rfl, rfl⟩, had 2 0 0 0 ⟨rfl, rfl, rfl⟩, had 3 0 0 0 ⟨rfl, rfl, rfl⟩]
    · rw [A 1 0 0 0 ⟨rfl, rfl, rfl⟩ (by omega)]
      obtain ⟨g, _, q1, q2⟩ := rx1 hR
      exact ⟨g, q1, fun u hu => by rw [eC] at hu; rw [had 4 u 0 0 ⟨hu, rfl, rfl⟩]; exact q2 u hu⟩
    · rw [A 2 0 0 0 ⟨rfl, rfl, rfl⟩ (by omega)]
      obtain ⟨g, _, q1, q2⟩ := rx2 hR
      exact ⟨g, q1, fun u hu => by rw [had 10 u 0 0 ⟨hu, rfl, rfl⟩]; exact q2 u hu⟩
    · rw [A 3 0 0 0 ⟨rfl, rfl, rfl⟩ (by omega)]
      obtain ⟨g, _, q1, q2⟩ := rx3 hR
      refine ⟨g, q1, fun o ho => ?_⟩
      rw [eO] at ho
      rw [k6]
      exact ⟨fun hx => by rw [had 13 o 0 0 ⟨⟨ho, hx⟩, rfl, rfl⟩]; exact (q2 o ho).1 hx, (q2 o ho).2⟩
    · rw [eC] at hu
      rw [A 4 u 0 0 ⟨hu, rfl, rfl⟩ (by omega), (rx4 hR hu).2]
      show _ = _
      rw [had 5 u 0 0 ⟨hu, rfl, rfl⟩, had 6 u 0 0 ⟨hu, rfl, rfl⟩, eK u, k1]
    · rw [eC] at hu
      rw [A 5 u 0 0 ⟨hu, rfl, rfl⟩ (by omega)]
      obtain ⟨g, _, q1, q2⟩ := rx5 hR hu
      exact ⟨g, q1, fun v hv => by rw [k1]; exact q2 v hv⟩
    · rw [eC] at hu
      rw [A 6 u 0 0 ⟨hu, rfl, rfl⟩ (by omega)]
      obtain ⟨g, _, q1, q2⟩ := rx6 hR hu
      exact ⟨g, q1, fun v hv => by rw [had 7 u v 0 ⟨hu, hv, rfl⟩]; exact q2 v hv⟩
    · rw [eC] at hu
      rw [A 7 u v 0 ⟨hu, hv, rfl⟩ (by omega), (rx7 hR hu hv).2]
      show _ = _
      rw [had 8 u v 0 ⟨hu, hv, rfl⟩, eS u v]
    · rw [eC] at hu
      rw [A 8 u v 0 ⟨hu, hv, rfl⟩ (by omega)]
      obtain ⟨g, _, q1, q2⟩ := rx8 hR hu hv
      exact ⟨g, q1, fun n hn => by rw [eS u v] at hn; rw [had 9 u v n ⟨hu, hv, hn⟩]; exact q2 n hn⟩
    · rw [eC] at hu
      rw [eS u v] at hn
      rw [A 9 u v n ⟨hu, hv, hn⟩ (by omega), (rx9 hR hu hv hn).2]
      show _ = _
      rw [k1]
    · by_cases e : u = th
      · subst e; exact c10
      · rw [A 10 u 0 0 ⟨hu, rfl, rfl⟩ (by omega), (rx10 hR hu).2]
        show _ = _
        rw [had 11 u 0 0 ⟨hu, rfl, rfl⟩, eD u e]
    · by_cases e : u = th
      · subst e; exact c11
      · rw [A 11 u 0 0 ⟨hu, rfl, rfl⟩ (by omega)]
        obtain ⟨g, _, q1, q2⟩ := rx11 hR hu
        exact ⟨g, q1, fun k hk2 => by rw [eD u e] at hk2; rw [had 12 u k 0 ⟨hu, hk2, rfl⟩]; exact q2 k hk2⟩
    · by_cases e : u = th
      · subst e; exact c12 k hk2
      · rw [eD u e] at hk2
        have h8 := (hI.2.2.2.1 u hu).2
        have hf1 := (hI.2.2.2.2.1 (8 * u + k) (by omega) (liv_at hk2 h8)).1.2
        rw [A 12 u k 0 ⟨hu, hk2, rfl⟩ (by omega), (rx12 hR hu hk2).2]
        show _ = _
        have hq : (8 * u + k) / 8 ≠ th := by omega
        rw [efC _ hq, efV _ hq, hfr 5 (by decide) (by decide) _ hq, had 4 _ 0 0 ⟨hf1, rfl, rfl⟩]
    · rw [eO] at ho
      rw [k6] at hx
      have ho1 := ((hI.2.2.2.2.2 o ho).2 hx).1.2
      rw [A 13 o 0 0 ⟨⟨ho, hx⟩, rfl, rfl⟩ (by omega), (rx13 hR ho hx).2]
      show _ = _
      rw [eoC, eoF, eoV, had 4 _ 0 0 ⟨ho1, rfl, rfl⟩, had 14 o 0 0 ⟨⟨ho, hx⟩, rfl, rfl⟩]
    · rw [eO] at ho
      rw [k6] at hx
      rw [A 14 o 0 0 ⟨⟨ho, hx⟩, rfl, rfl⟩ (by omega)]
      obtain ⟨g, _, q1, q2⟩ := rx14 hR ho hx
      exact ⟨g, q1, fun v hv => by rw [had 15 o v 0 ⟨⟨ho, hx⟩, hv, rfl⟩]; exact q2 v hv⟩
    · rw [eO] at ho
      rw [k6] at hx
      rw [A 15 o v 0 ⟨⟨ho, hx⟩, hv, rfl⟩ (by omega)]
      obtain ⟨g, _, q1, q2⟩ := rx15 hR ho hx hv
      exact ⟨g, q1, by rw [eoF, eoV, k10]; exact q2⟩
/-- a change of object o alone, also its birth and its end -/
theorem RX_obj (hI : Inv σ) (hR : RX G L f ad σ) {L2 : List Nat} {f2 : Nat → va_E} {ad2 : xAd} {σ2 : Sg} {o : Nat} (hk : ∀ k, 1 ≤ k → k ≤ 5 → σ2 k = σ k) (hC : σ2 0 0 = σ 0 0) (hL : ∀ x, x ∈ L → x ∈ L2)
    (had : ∀ a b c d, XL σ a b c d → ad2 a b c d = ad a b c d) (hf : ∀ a b c d, XL σ a b c d → a ≠ 0 → a ≠ 3 → ¬ (b = o ∧ 13 ≤ a) → f2 (ad a b c d) = f (ad a b c d))
    (hlive : ∀ u, u ≠ o → u < nO σ2 → σ2 6 u = 1 → u < nO σ ∧ σ 6 u = 1) (heq : ∀ u, u ≠ o → σ2 7 u = σ 7 u ∧ σ2 8 u = σ 8 u ∧ σ2 9 u = σ 9 u) (h10 : ∀ u v k, u ≠ o → v < 8 → k < 8 → σ2 10 (cel u v k) = σ 10 (cel u v k))
    (hnew : ¬ (o < nO σ ∧ σ 6 o = 1) → ∀ a c d, XL σ2 a o c d → 13 ≤ a → ad2 a o c d ∉ L ∧ ad2 a o c d ∈ L2)
    (hN : ¬ (o < nO σ ∧ σ 6 o = 1) → ∀ a c d a2 c2 d2, XL σ2 a o c d → XL σ2 a2 o c2 d2 → 13 ≤ a → 13 ≤ a2 → ad2 a o c d = ad2 a2 o c2 d2 → a = a2 ∧ c = c2 ∧ d = d2)
    (c0 : XC G ad2 σ2 0 0 0 0 (f2 (ad2 0 0 0 0))) (c3 : XC G ad2 σ2 3 0 0 0 (f2 (ad2 3 0 0 0))) (c13 : o < nO σ2 → σ2 6 o = 1 → XC G ad2 σ2 13 o 0 0 (f2 (ad2 13 o 0 0)) ∧ XC G ad2 σ2 14 o 0 0 (f2 (ad2 14 o 0 0)) ∧ ∀ v, v < 8 → XC G ad2 σ2 15 o v 0 (f2 (ad2 15 o v 0))) : RX G L2 f2 ad2 σ2 := by
  have k1 := hk 1 (by decide) (by decide)
  have k2 := hk 2 (by decide) (by decide)
  have k3 := hk 3 (by decide) (by decide)
  have k4 := hk 4 (by decide) (by decide)
  have k5 := hk 5 (by decide) (by decide)
  have eC : nC σ2 = nC σ := by unfold nC; rw [hC]
  have eD : ∀ u, dN σ2 u = dN σ u := fun u => by unfold dN; rw [k2]
  have efC : ∀ j, fC σ2 j = fC σ j := fun j => by unfold fC; rw [k3]
  have efV : ∀ j, fV σ2 j = fV σ j := fun j => by unfold fV; rw [k4]
  have eoC : ∀ j, j ≠ o → oC σ2 j = oC σ j := fun j hj => by unfold oC; rw [(heq j hj).1]
  have eoV : ∀ j, j ≠ o → oV σ2 j = oV σ j := fun j hj => by unfold oV; rw [(heq j hj).2.1]
  have eoF : ∀ j, j ≠ o → oF σ2 j = oF σ j := fun j hj => by unfold oF; rw [(heq j hj).2.2]
  have eK : ∀ u, cnt σ2 u = cnt σ u := fun u => by unfold cnt; rw [k1]
  have eS : ∀ u v, stp σ2 u v = stp σ u v := fun u v => by unfold stp; rw [k1]
  have live : ∀ a b c d, XL σ2 a b c d → XL σ a b c d ∨ (b = o ∧ 13 ≤ a ∧ ¬ (o < nO σ ∧ σ 6 o = 1)) := by
    refine rx_cases σ2 (Or.inl ⟨rfl, rfl, rfl⟩) (Or.inl ⟨rfl, rfl, rfl⟩) (Or.inl ⟨rfl, rfl, rfl⟩) (Or.inl ⟨rfl, rfl, rfl⟩) (fun u hu => Or.inl ⟨eC ▸ hu, rfl, rfl⟩) (fun u hu => Or.inl ⟨eC ▸ hu, rfl, rfl⟩) (fun u hu => Or.inl ⟨eC ▸ hu, rfl, rfl⟩) (fun u v hu hv => Or.inl ⟨eC ▸ hu, hv, rfl⟩) (fun u v hu hv => Or.inl ⟨eC ▸ hu, hv, rfl⟩) (fun u v n hu hv hn => Or.inl ⟨eC ▸ hu, hv, eS u v ▸ hn⟩) (fun u hu => Or.inl ⟨hu, rfl, rfl⟩) (fun u hu => Or.inl ⟨hu, rfl, rfl⟩) (fun u k hu hk2 => Or.inl ⟨hu, eD u ▸ hk2, rfl⟩) (fun u ho hx => ?_) (fun u ho hx => ?_) (fun u v ho hx hv => ?_)
    · by_cases e : u = o
      · subst e
        by_cases z : u < nO σ ∧ σ 6 u = 1
        · exact Or.inl ⟨z, rfl, rfl⟩
        · exact Or.inr ⟨rfl, by omega, z⟩
      · exact Or.inl ⟨hlive u e ho hx, rfl, rfl⟩
    · by_cases e : u = o
      · subst e
        by_cases z : u < nO σ ∧ σ 6 u = 1
        · exact Or.inl ⟨z, rfl, rfl⟩
        · exact Or.inr ⟨rfl, by omega, z⟩
      · exact Or.inl ⟨hlive u e ho hx, rfl, rfl⟩
    · by_cases e : u = o
      · subst e
        by_cases z : u < nO σ ∧ σ 6 u = 1
        · exact Or.inl ⟨z, hv, rfl⟩
        · exact Or.inr ⟨rfl, by omega, z⟩
      · exact Or.inl ⟨hlive u e ho hx, hv, rfl⟩
  refine RX_gen hR (fun a b c d => b = o ∧ 13 ≤ a ∧ ¬ (o < nO σ ∧ σ 6 o = 1)) hL (fun a b c d h => ?_) (fun a b c d a2 b2 c2 d2 h h2 q u e => ?_) ?_
  · rcases live a b c d h with q | q
    · exact Or.inl ⟨q, had a b c d q⟩
    · obtain ⟨rfl, q2, q3⟩ := q
      exact Or.inr ⟨⟨rfl, q2, q3⟩, hnew q3 a c d h q2⟩
  · obtain ⟨rfl, q2, q3⟩ := q
    obtain ⟨rfl, u2, u3⟩ := u
    obtain ⟨w1, w2, w3⟩ := hN q3 a c d a2 c2 d2 h h2 q2 u2 e
    exact ⟨w1, rfl, w2, w3⟩
  · have A : ∀ a b c d, XL σ a b c d → a ≠ 0 → a ≠ 3 → ¬ (b = o ∧ 13 ≤ a) → f2 (ad2 a b c d) = f (ad a b c d) := fun a b c d h n0 n3 hn => by rw [had a b c d h]; exact hf a b c d h n0 n3 hn
    refine rx_cases σ2 c0 ?_ ?_ c3 (fun u hu => ?_) (fun u hu => ?_) (fun u hu => ?_) (fun u v hu hv => ?_) (fun u v hu hv => ?_) (fun u v n hu hv hn => ?_) (fun u hu => ?_) (fun u hu => ?_) (fun u k hu hk2 => ?_) (fun u ho hx => ?_) (fun u ho hx => ?_) (fun u v ho hx hv => ?_)
    · rw [A 1 0 0 0 ⟨rfl, rfl, rfl⟩ (by decide) (by decide) (by omega)]
      obtain ⟨g, _, q1, q2⟩ := rx1 hR
      exact ⟨g, q1, fun u hu => by rw [eC] at hu; rw [had 4 u 0 0 ⟨hu, rfl, rfl⟩]; exact q2 u hu⟩
    · rw [A 2 0 0 0 ⟨rfl, rfl, rfl⟩ (by decide) (by decide) (by omega)]
      obtain ⟨g, _, q1, q2⟩ := rx2 hR
      exact ⟨g, q1, fun u hu => by rw [had 10 u 0 0 ⟨hu, rfl, rfl⟩]; exact q2 u hu⟩
    · rw [eC] at hu
      rw [A 4 u 0 0 ⟨hu, rfl, rfl⟩ (by decide) (by decide) (by omega), (rx4 hR hu).2]
      show _ = _
      rw [had 5 u 0 0 ⟨hu, rfl, rfl⟩, had 6 u 0 0 ⟨hu, rfl, rfl⟩, eK u, k1]
    · rw [eC] at hu
      rw [A 5 u 0 0 ⟨hu, rfl, rfl⟩ (by decide) (by decide) (by omega)]
      obtain ⟨g, _, q1, q2⟩ := rx5 hR hu
      exact ⟨g, q1, fun v hv => by rw [k1]; exact q2 v hv⟩
    · rw [eC] at hu
      rw [A 6 u 0 0 ⟨hu, rfl, rfl⟩ (by decide) (by decide) (by omega)]
      obtain ⟨g, _, q1, q2⟩ := rx6 hR hu
      exact ⟨g, q1, fun v hv => by rw [had 7 u v 0 ⟨hu, hv, rfl⟩]; exact q2 v hv⟩
    · rw [eC] at hu
      rw [A 7 u v 0 ⟨hu, hv, rfl⟩ (by decide) (by decide) (by omega), (rx7 hR hu hv).2]
      show _ = _
      rw [had 8 u v 0 ⟨hu, hv, rfl⟩, eS u v]
    · rw [eC] at hu
      rw [A 8 u v 0 ⟨hu, hv, rfl⟩ (by decide) (by decide) (by omega)]
      obtain ⟨g, _, q1, q2⟩ := rx8 hR hu hv
      exact ⟨g, q1, fun n hn => by rw [eS u v] at hn; rw [had 9 u v n ⟨hu, hv, hn⟩]; exact q2 n hn⟩
    · rw [eC] at hu
      rw [eS u v] at hn
      rw [A 9 u v n ⟨hu, hv, hn⟩ (by decide) (by decide) (by omega), (rx9 hR hu hv hn).2]
      show _ = _
      rw [k1]
    · rw [A 10 u 0 0 ⟨hu, rfl, rfl⟩ (by decide) (by decide) (by omega), (rx10 hR hu).2]
      show _ = _
      rw [had 11 u 0 0 ⟨hu, rfl, rfl⟩, eD u]
    · rw [A 11 u 0 0 ⟨hu, rfl, rfl⟩ (by decide) (by decide) (by omega)]
      obtain ⟨g, _, q1, q2⟩ := rx11 hR hu
      exact ⟨g, q1, fun k hk2 => by rw [eD u] at hk2; rw [had 12 u k 0 ⟨hu, hk2, rfl⟩]; exact q2 k hk2⟩
    · rw [eD u] at hk2
      have h8 := (hI.2.2.2.1 u hu).2
      have hf1 := (hI.2.2.2.2.1 (8 * u + k) (by omega) (liv_at hk2 h8)).1.2
      rw [A 12 u k 0 ⟨hu, hk2, rfl⟩ (by decide) (by decide) (by omega), (rx12 hR hu hk2).2]
      show _ = _
      rw [efC, efV, k5, had 4 _ 0 0 ⟨hf1, rfl, rfl⟩]
    · by_cases e : u = o
      · subst e; exact (c13 ho hx).1
      · obtain ⟨ho, hx⟩ := hlive u e ho hx
        have ho1 := ((hI.2.2.2.2.2 u ho).2 hx).1.2
        rw [A 13 u 0 0 ⟨⟨ho, hx⟩, rfl, rfl⟩ (by decide) (by decide) (by omega), (rx13 hR ho hx).2]
        show _ = _
        rw [eoC u e, eoF u e, eoV u e, had 4 _ 0 0 ⟨ho1, rfl, rfl⟩, had 14 u 0 0 ⟨⟨ho, hx⟩, rfl, rfl⟩]
    · by_cases e : u = o
      · subst e; exact (c13 ho hx).2.1
      · obtain ⟨ho, hx⟩ := hlive u e ho hx
        rw [A 14 u 0 0 ⟨⟨ho, hx⟩, rfl, rfl⟩ (by decide) (by decide) (by omega)]
        obtain ⟨g, _, q1, q2⟩ := rx14 hR ho hx
        exact ⟨g, q1, fun v hv => by rw [had 15 u v 0 ⟨⟨ho, hx⟩, hv, rfl⟩]; exact q2 v hv⟩
    · by_cases e : u = o
      · subst e; exact (c13 ho hx).2.2 v hv
      · obtain ⟨ho, hx⟩ := hlive u e ho hx
        rw [A 15 u v 0 ⟨⟨ho, hx⟩, hv, rfl⟩ (by decide) (by decide) (by omega)]
        obtain ⟨g, _, q1, q2⟩ := rx15 hR ho hx hv
        exact ⟨g, q1, by rw [eoF u e, eoV u e]; exact fun r1 r2 k hk3 => by rw [h10 u v k e hv hk3]; exact q2 r1 r2 k hk3⟩
end RXT
section RXT2
variable {G : hG} {L : List Nat} {f : Nat → va_E} {ad : xAd} {σ : Sg}
theorem mk1 (σ : Sg) (k i : Nat) (x : Int32) (j : Nat) : mS σ k i x k j = if j = i then x else σ k j := by rw [mS_at]; simp
theorem call_post (hI : Inv σ) (hR : RX G L f ad σ) {th t : Nat} (hth : th < 4) (ht : t < nC σ) {g : Nat → Option Nat} (hg : ∀ k, k < dN σ th → g k = some (ad 12 th k 0)) {r : Int32} {wd : va_W}
    (hp : (dN σ th = 8 → r = -2000010 ∧ wd = va_pl L f) ∧ (dN σ th < 8 → r = nI (dN σ th + 1) ∧ ∃ q, q ∉ L ∧ wd = va_pl (L ++ [q]) (va_up (va_up (va_up f q (.inr (3, [.ref (ad 4 t 0 0), .int (nI (cnt σ t - 1)), .int 0]))) (ad 11 th 0 0) (hAQ G 5 8 (va_up g (dN σ th) (some q)))) (ad 10 th 0 0) (.inr (0, [.ref (ad 11 th 0 0), .int (nI (dN σ th + 1))]))))) :
    r = (M_call σ (nI th) (nI t)).1 ∧ XPo G (ad 0 0 0 0) (M_call σ (nI th) (nI t)).2 wd := by
  have hC6 := hI.1.2
  have h8 := (hI.2.2.2.1 th hth).2
  have hk := (hI.2.2.1 t ht).1
  have ct : cN (nI th) = th := nI_clamp (by omega)
  have cc : cN (nI t) = t := nI_clamp (by omega)
  rw [M_call, wif_t ⟨th, hth, rfl⟩, wif_t ⟨t, ht, rfl⟩, ct, cc]
  by_cases c : dN σ th = 8
  · obtain ⟨rfl, rfl⟩ := hp.1 c
    rw [wif_t c]
    exact ⟨rfl, _, _, _, rfl, hR, rfl⟩
  rw [wif_f c]
  obtain ⟨rfl, q, hq, rfl⟩ := hp.2 (by omega)
  refine ⟨rfl, _, _, adU ad 12 th (dN σ th) 0 q, rfl, ?_, adU_n ad (by omega)⟩
  show RX G _ _ _ (mS (mS (mS (mS σ 3 (8 * th + dN σ th) (nI t)) 4 (8 * th + dN σ th) (nI (cnt σ t) - 1)) 5 (8 * th + dN σ th) 0) 2 th (nI (dN σ th + 1)))
  generalize hs2 : mS (mS (mS (mS σ 3 (8 * th + dN σ th) (nI t)) 4 (8 * th + dN σ th) (nI (cnt σ t) - 1)) 5 (8 * th + dN σ th) 0) 2 th (nI (dN σ th + 1)) = σ2
  have hk2 : ∀ k, (k < 2 ∨ 6 ≤ k) → σ2 k = σ k := fun k h => by rw [← hs2, mS_k (by omega), mS_k (by omega), mS_k (by omega), mS_k (by omega)]
  have h2 : ∀ j, σ2 2 j = if j = th then nI (dN σ th + 1) else σ 2 j := fun j => by rw [← hs2, mk1, mS_k (by omega), mS_k (by omega), mS_k (by omega)]
  have h3 : ∀ j, σ2 3 j = if j = 8 * th + dN σ th then nI t else σ 3 j := fun j => by rw [← hs2, mS_k (by omega), mS_k (by omega), mS_k (by omega), mk1]
  have h4 : ∀ j, σ2 4 j = if j = 8 * th + dN σ th then nI (cnt σ t) - 1 else σ 4 j := fun j => by rw [← hs2, mS_k (by omega), mS_k (by omega), mk1, mS_k (by omega)]
  have h5 : ∀ j, σ2 5 j = if j = 8 * th + dN σ th then 0 else σ 5 j := fun j => by rw [← hs2, mS_k (by omega), mk1, mS_k (by omega), mS_k (by omega)]
  have eD : dN σ2 th = dN σ th + 1 := by unfold dN; rw [h2, if_pos rfl]; exact nI_clamp (show dN σ th + 1 < 2 ^ 31 by omega)
  have l10 : XL σ 10 th 0 0 := ⟨hth, rfl, rfl⟩
  have l11 : XL σ 11 th 0 0 := ⟨hth, rfl, rfl⟩
  have hnl : ¬ XL σ 12 th (dN σ th) 0 := fun ⟨_, z, _⟩ => by omega
  have had : ∀ a b c d, XL σ a b c d → adU ad 12 th (dN σ th) 0 q a b c d = ad a b c d := fun a b c d h => adU_n ad (fun ⟨e1, e2, e3, e4⟩ => hnl (by rw [e1, e2, e3, e4] at h; exact h))
  have hqn : ∀ a b c d, XL σ a b c d → ad a b c d ≠ q := fun a b c d h z => hq (z ▸ (hR.1 a b c d h).1)
  generalize hf2 : va_up (va_up (va_up f q (.inr (3, [.ref (ad 4 t 0 0), .int (nI (cnt σ t - 1)), .int 0]))) (ad 11 th 0 0) (hAQ G 5 8 (va_up g (dN σ th) (some q)))) (ad 10 th 0 0) (.inr (0, [.ref (ad 11 th 0 0), .int (nI (dN σ th + 1))])) = f2
  have eF : ∀ a b c d, XL σ a b c d → ¬ (a = 10 ∧ b = th ∧ c = 0 ∧ d = 0) → ¬ (a = 11 ∧ b = th ∧ c = 0 ∧ d = 0) → f2 (ad a b c d) = f (ad a b c d) := fun a b c d h n1 n2 => by
    rw [← hf2, va_up_n _ _ (rx_ne hR h l10 n1), va_up_n _ _ (rx_ne hR h l11 n2), va_up_n _ _ (hqn _ _ _ _ h)]
  have hc1 : nI (cnt σ t) - 1 = nI (cnt σ t - 1) := pk_sub (a := cnt σ t) (b := 1) hk.2.1
  refine RX_thr (th := th) (k0 := dN σ th) hI hR hth hk2 (fun u hu => by rw [h2, if_neg hu]) (fun k hk3 hk4 j hj => ?_) (fun x h => List.mem_append_left _ h) had (fun a b c d h hn => eF a b c d h (by omega) (by omega)) (fun k hk5 => ?_) ?_ ?_ (fun k hk5 => ?_)
  · rcases (show k = 3 ∨ k = 4 ∨ k = 5 by omega) with e | e | e <;> subst e
    · rw [h3, if_neg (by omega)]
    · rw [h4, if_neg (by omega)]
    · rw [h5, if_neg (by omega)]
  · rw [eD] at hk5
    by_cases e : k = dN σ th
    · exact Or.inr ⟨e, by rw [adU_s]; exact hq, by rw [adU_s]; exact List.mem_append_right _ (List.mem_singleton.mpr rfl)⟩
    · exact Or.inl (by omega)
  · rw [had 10 th 0 0 l10, ← hf2, va_up_s]
    show _ = _
    rw [had 11 th 0 0 l11, eD]
  · rw [had 11 th 0 0 l11, ← hf2, va_up_n _ _ (rx_ne hR l11 l10 (by omega)), va_up_s]
    refine ⟨_, rfl, fun k hk5 => ?_⟩
    rw [eD] at hk5
    by_cases e : k = dN σ th
    · rw [e, va_up_s, adU_s]
    · rw [va_up_n _ _ e, had 12 th k 0 ⟨hth, by omega, rfl⟩, hg k (by omega)]
  · rw [eD] at hk5
    by_cases e : k = dN σ th
    · subst e
      have e3 : fC σ2 (8 * th + dN σ th) = t := by unfold fC; rw [h3, if_pos rfl]; exact cc
      have e4 : fV σ2 (8 * th + dN σ th) = cnt σ t - 1 := by unfold fV; rw [h4, if_pos rfl, hc1]; exact nI_clamp (by omega)
      rw [adU_s, ← hf2, va_up_n _ _ (hqn _ _ _ _ l10).symm, va_up_n _ _ (hqn _ _ _ _ l11).symm, va_up_s]
      show _ = _
      rw [e3, e4, h5, if_pos rfl, had 4 t 0 0 ⟨ht, rfl, rfl⟩]
    · have hk6 : k < dN σ th := by omega
      have hf1 := (hI.2.2.2.2.1 (8 * th + k) (by omega) (liv_at hk6 h8)).1.2
      rw [had 12 th k 0 ⟨hth, hk6, rfl⟩, eF 12 th k 0 ⟨hth, hk6, rfl⟩ (by omega) (by omega), (rx12 hR hth hk6).2]
      show _ = _
      have e3 : fC σ2 (8 * th + k) = fC σ (8 * th + k) := by unfold fC; rw [h3, if_neg (by omega)]
      have e4 : fV σ2 (8 * th + k) = fV σ (8 * th + k) := by unfold fV; rw [h4, if_neg (by omega)]
      rw [e3, e4, h5, if_neg (by omega), had 4 _ 0 0 ⟨hf1, rfl, rfl⟩]
theorem fin_post (hI : Inv σ) (hR : RX G L f ad σ) {th : Nat} (hth : th < 4) {g : Nat → Option Nat} (hg : ∀ k, k < dN σ th → g k = some (ad 12 th k 0)) {r : Int32} {wd : va_W}
    (hp : (dN σ th = 0 → r = -2000006 ∧ wd = va_pl L f) ∧ (0 < dN σ th → r = nI (dN σ th - 1) ∧ wd = va_pl L (va_up (va_up f (ad 10 th 0 0) (.inr (0, [.ref (ad 11 th 0 0), .int (nI (dN σ th - 1))]))) (ad 11 th 0 0) (hAQ G 5 8 (va_up g (dN σ th - 1) none))))) :
    r = (M_finish σ (nI th)).1 ∧ XPo G (ad 0 0 0 0) (M_finish σ (nI th)).2 wd := by
  have h8 := (hI.2.2.2.1 th hth).2
  have ct : cN (nI th) = th := nI_clamp (by omega)
  rw [M_finish, wif_t ⟨th, hth, rfl⟩, ct]
  by_cases c : dN σ th = 0
  · obtain ⟨rfl, rfl⟩ := hp.1 c
    rw [wif_t c]
    exact ⟨rfl, _, _, _, rfl, hR, rfl⟩
  rw [wif_f c]
  obtain ⟨rfl, rfl⟩ := hp.2 (by omega)
  refine ⟨rfl, _, _, ad, rfl, ?_, rfl⟩
  show RX G _ _ _ (mS σ 2 th (nI (dN σ th - 1)))
  generalize hs2 : mS σ 2 th (nI (dN σ th - 1)) = σ2
  have hk2 : ∀ k, k ≠ 2 → σ2 k = σ k := fun k h => by rw [← hs2, mS_k h]
  have h2 : ∀ j, σ2 2 j = if j = th then nI (dN σ th - 1) else σ 2 j := fun j => by rw [← hs2, mk1]
  have eD : dN σ2 th = dN σ th - 1 := by unfold dN; rw [h2, if_pos rfl]; exact nI_clamp (show dN σ th - 1 < 2 ^ 31 by omega)
  have l10 : XL σ 10 th 0 0 := ⟨hth, rfl, rfl⟩
  have l11 : XL σ 11 th 0 0 := ⟨hth, rfl, rfl⟩
  generalize hf2 : va_up (va_up f (ad 10 th 0 0) (.inr (0, [.ref (ad 11 th 0 0), .int (nI (dN σ th - 1))]))) (ad 11 th 0 0) (hAQ G 5 8 (va_up g (dN σ th - 1) none)) = f2
  have eF : ∀ a b c d, XL σ a b c d → ¬ (a = 10 ∧ b = th ∧ c = 0 ∧ d = 0) → ¬ (a = 11 ∧ b = th ∧ c = 0 ∧ d = 0) → f2 (ad a b c d) = f (ad a b c d) := fun a b c d h n1 n2 => by
    rw [← hf2, va_up_n _ _ (rx_ne hR h l11 n2), va_up_n _ _ (rx_ne hR h l10 n1)]
  refine RX_thr (th := th) (k0 := 0) hI hR hth (fun k h => hk2 k (by omega)) (fun u hu => by rw [h2, if_neg hu]) (fun k hk3 hk4 j hj => by rw [hk2 k (by omega)]) (fun x h => h) (fun a b c d h => rfl) (fun a b c d h hn => eF a b c d h (by omega) (by omega)) (fun k hk5 => Or.inl (by omega)) ?_ ?_ (fun k hk5 => ?_)
  · rw [← hf2, va_up_n _ _ (rx_ne hR l10 l11 (by omega)), va_up_s]
    show _ = _
    rw [eD]
  · rw [← hf2, va_up_s]
    refine ⟨_, rfl, fun k hk5 => ?_⟩
    rw [va_up_n _ _ (by omega), hg k (by omega)]
  · have hk6 : k < dN σ th := by omega
    rw [eF 12 th k 0 ⟨hth, hk6, rfl⟩ (by omega) (by omega), (rx12 hR hth hk6).2]
    show _ = _
    unfold fC fV
    rw [hk2 3 (by decide), hk2 4 (by decide), hk2 5 (by decide)]
theorem rx_pin (hI : Inv σ) (hR : RX G L f ad σ) {th k : Nat} (hth : th < 4) (hk : k < dN σ th) (x : Int32) :
    RX G L (va_up f (ad 12 th k 0) (.inr (3, [.ref (ad 4 (fC σ (8 * th + k)) 0 0), .int (nI (fV σ (8 * th + k))), .int x]))) ad (mS σ 5 (8 * th + k) x) := by
  have h8 := (hI.2.2.2.1 th hth).2
  generalize hs2 : mS σ 5 (8 * th + k) x = σ2
  have hk2 : ∀ k, k ≠ 5 → σ2 k = σ k := fun k h => by rw [← hs2, mS_k h]
  have h5 : ∀ j, σ2 5 j = if j = 8 * th + k then x else σ 5 j := fun j => by rw [← hs2, mk1]
  have eD : dN σ2 th = dN σ th := by unfold dN; rw [hk2 2 (by decide)]
  have l12 : XL σ 12 th k 0 := ⟨hth, hk, rfl⟩
  generalize hf2 : va_up f (ad 12 th k 0) (.inr (3, [.ref (ad 4 (fC σ (8 * th + k)) 0 0), .int (nI (fV σ (8 * th + k))), .int x])) = f2
  have eF : ∀ a b c d, XL σ a b c d → ¬ (a = 12 ∧ b = th ∧ c = k ∧ d = 0) → f2 (ad a b c d) = f (ad a b c d) := fun a b c d h n1 => by
    rw [← hf2, va_up_n _ _ (rx_ne hR h l12 n1)]
  refine RX_thr (th := th) (k0 := 0) hI hR hth (fun k h => hk2 k (by omega)) (fun u hu => by rw [hk2 2 (by decide)]) (fun k2 hk3 hk4 j hj => ?_) (fun x h => h) (fun a b c d h => rfl) (fun a b c d h hn => eF a b c d h (by omega)) (fun k hk5 => Or.inl (by omega)) ?_ ?_ (fun k2 hk5 => ?_)
  · by_cases e : k2 = 5
    · subst e; rw [h5, if_neg (by omega)]
    · rw [hk2 k2 e]
  · rw [eF 10 th 0 0 ⟨hth, rfl, rfl⟩ (by omega), (rx10 hR hth).2]
    show _ = _
    rw [eD]
  · rw [eF 11 th 0 0 ⟨hth, rfl, rfl⟩ (by omega)]
    obtain ⟨g, _, q1, q2⟩ := rx11 hR hth
    exact ⟨g, q1, fun k3 hk6 => q2 k3 (by omega)⟩
  · by_cases e : k2 = k
    · subst e
      rw [← hf2, va_up_s]
      show _ = _
      unfold fC fV
      rw [hk2 3 (by decide), hk2 4 (by decide), h5, if_pos rfl]
    · rw [eF 12 th k2 0 ⟨hth, by omega, rfl⟩ (by omega), (rx12 hR hth (by omega)).2]
      show _ = _
      unfold fC fV
      rw [hk2 3 (by decide), hk2 4 (by decide), h5, if_neg (by omega)]
end RXT2
