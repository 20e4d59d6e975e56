/-! how the picture of the state moves: a class, a thread, an object at a time -/
section RXU
variable {G : hG} {L : List Nat} {f : Nat → va_E} {ad : xAd} {σ : Sg}
theorem rx_ne (hR : RX G L f ad σ) {a b c d a2 b2 c2 d2 : Nat} (la : XL σ a b c d) (lb : XL σ a2 b2 c2 d2) (h : ¬ (a = a2 ∧ b = b2 ∧ c = c2 ∧ d = d2)) : ad a b c d ≠ ad a2 b2 c2 d2 := fun q => h (hR.2 _ _ _ _ _ _ _ _ la lb q)
theorem rx_cases {M : Nat → Nat → Nat → Nat → Prop} (σ : Sg) (h0 : M 0 0 0 0) (h1 : M 1 0 0 0) (h2 : M 2 0 0 0) (h3 : M 3 0 0 0) (h4 : ∀ t, t < nC σ → M 4 t 0 0) (h5 : ∀ t, t < nC σ → M 5 t 0 0) (h6 : ∀ t, t < nC σ → M 6 t 0 0) (h7 : ∀ t v, t < nC σ → v < 8 → M 7 t v 0) (h8 : ∀ t v, t < nC σ → v < 8 → M 8 t v 0) (h9 : ∀ t v n, t < nC σ → v < 8 → n < stp σ t v → M 9 t v n) (h10 : ∀ t, t < 4 → M 10 t 0 0) (h11 : ∀ t, t < 4 → M 11 t 0 0) (h12 : ∀ t k, t < 4 → k < dN σ t → M 12 t k 0) (h13 : ∀ o, o < nO σ → σ 6 o = 1 → M 13 o 0 0) (h14 : ∀ o, o < nO σ → σ 6 o = 1 → M 14 o 0 0) (h15 : ∀ o v, o < nO σ → σ 6 o = 1 → v < 8 → M 15 o v 0) : ∀ a b c d, XL σ a b c d → M a b c d := by
  intro a b c d h
  match a, h with
  | 0, ⟨e1, e2, e3⟩ => subst e1; subst e2; subst e3; exact h0
  | 1, ⟨e1, e2, e3⟩ => subst e1; subst e2; subst e3; exact h1
  | 2, ⟨e1, e2, e3⟩ => subst e1; subst e2; subst e3; exact h2
  | 3, ⟨e1, e2, e3⟩ => subst e1; subst e2; subst e3; exact h3
  | 4, ⟨e1, e2, e3⟩ => subst e2; subst e3; exact h4 b e1
  | 5, ⟨e1, e2, e3⟩ => subst e2; subst e3; exact h5 b e1
  | 6, ⟨e1, e2, e3⟩ => subst e2; subst e3; exact h6 b e1
  | 7, ⟨e1, e2, e3⟩ => subst e3; exact h7 b c e1 e2
  | 8, ⟨e1, e2, e3⟩ => subst e3; exact h8 b c e1 e2
  | 9, ⟨e1, e2, e3⟩ => exact h9 b c d e1 e2 e3
  | 10, ⟨e1, e2, e3⟩ => subst e2; subst e3; exact h10 b e1
  | 11, ⟨e1, e2, e3⟩ => subst e2; subst e3; exact h11 b e1
  | 12, ⟨e1, e2, e3⟩ => subst e3; exact h12 b c e1 e2
  | 13, ⟨e1, e2, e3⟩ => subst e2; subst e3; exact h13 b e1.1 e1.2
  | 14, ⟨e1, e2, e3⟩ => subst e2; subst e3; exact h14 b e1.1 e1.2
  | 15, ⟨e1, e2, e3⟩ => subst e3; exact h15 b c e1.1 e1.2 e2
/-- one new place at most, at a fresh address -/
theorem RX_gen (hR : RX G L f ad σ) {L2 : List Nat} {f2 : Nat → va_E} {ad2 : xAd} {σ2 : Sg} (N : Nat → Nat → Nat → Nat → Prop) (hL : ∀ x, x ∈ L → x ∈ L2)
    (hd : ∀ a b c d, XL σ2 a b c d → (XL σ a b c d ∧ ad2 a b c d = ad a b c d) ∨ (N a b c d ∧ ad2 a b c d ∉ L ∧ ad2 a b c d ∈ L2))
    (hN : ∀ a b c d a2 b2 c2 d2, XL σ2 a b c d → XL σ2 a2 b2 c2 d2 → N a b c d → N a2 b2 c2 d2 → ad2 a b c d = ad2 a2 b2 c2 d2 → a = a2 ∧ b = b2 ∧ c = c2 ∧ d = d2)
    (hc : ∀ a b c d, XL σ2 a b c d → XC G ad2 σ2 a b c d (f2 (ad2 a b c d))) : RX G L2 f2 ad2 σ2 := by
  refine ⟨fun a b c d h => ⟨?_, hc a b c d h⟩, fun a b c d a2 b2 c2 d2 h h2 e => ?_⟩
  · rcases hd a b c d h with ⟨q, e⟩ | ⟨_, _, q⟩
    · rw [e]; exact hL _ (hR.1 a b c d q).1
    · exact q
  · rcases hd a b c d h with ⟨q, e1⟩ | ⟨q, q1, q2⟩ <;> rcases hd a2 b2 c2 d2 h2 with ⟨u, e2⟩ | ⟨u, u1, u2⟩
    · rw [e1, e2] at e
      exact hR.2 _ _ _ _ _ _ _ _ q u e
    · rw [e1] at e
      exact absurd (e ▸ (hR.1 a b c d q).1) u1
    · rw [e2] at e
      exact absurd (e.symm ▸ (hR.1 a2 b2 c2 d2 u).1) q1
    · exact hN _ _ _ _ _ _ _ _ h h2 q u e
/-- a change of class t alone -/
theorem RX_cls (hI : Inv σ) (hR : RX G L f ad σ) {L2 : List Nat} {f2 : Nat → va_E} {ad2 : xAd} {σ2 : Sg} {t v0 n0 : Nat} (ht : t < nC σ) (hk : ∀ k, k ≠ 1 → σ2 k = σ k) (h1 : ∀ j, (j < 162 * t ∨ 162 * t + 162 ≤ j) → σ2 1 j = σ 1 j) (hL : ∀ x, x ∈ L → x ∈ L2)
    (had : ∀ a b c d, XL σ a b c d → ad2 a b c d = ad a b c d) (hf : ∀ a b c d, XL σ a b c d → ¬ (b = t ∧ 4 ≤ a ∧ a ≤ 9) → f2 (ad a b c d) = f (ad a b c d))
    (hst : ∀ v n, v < 8 → n < stp σ2 t v → n < stp σ t v ∨ (v = v0 ∧ n = n0 ∧ ad2 9 t v0 n0 ∉ L ∧ ad2 9 t v0 n0 ∈ L2))
    (c4 : XC G ad2 σ2 4 t 0 0 (f2 (ad2 4 t 0 0))) (c5 : XC G ad2 σ2 5 t 0 0 (f2 (ad2 5 t 0 0))) (c6 : XC G ad2 σ2 6 t 0 0 (f2 (ad2 6 t 0 0))) (c7 : ∀ v, v < 8 → XC G ad2 σ2 7 t v 0 (f2 (ad2 7 t v 0))) (c8 : ∀ v, v < 8 → XC G ad2 σ2 8 t v 0 (f2 (ad2 8 t v 0))) (c9 : ∀ v n, v < 8 → n < stp σ2 t v → XC G ad2 σ2 9 t v n (f2 (ad2 9 t v n))) : RX G L2 f2 ad2 σ2 := by
  have k0 := hk 0 (by decide)
  have k2 := hk 2 (by decide)
  have k3 := hk 3 (by decide)
  have k4 := hk 4 (by decide)
  have k5 := hk 5 (by decide)
  have k6 := hk 6 (by decide)
  have k7 := hk 7 (by decide)
  have k8 := hk 8 (by decide)
  have k9 := hk 9 (by decide)
  have k10 := hk 10 (by decide)
  have eC : nC σ2 = nC σ := by unfold nC; rw [k0]
  have eO : nO σ2 = nO σ := by unfold nO; rw [k0]
  have eD : ∀ u, dN σ2 u = dN σ u := fun u => by unfold dN; rw [k2]
  have efC : ∀ j, fC σ2 j = fC σ j := fun j => by unfold fC; rw [k3]
  have efV : ∀ j, fV σ2 j = fV σ j := fun j => by unfold fV; rw [k4]
  have eoC : ∀ j, oC σ2 j = oC σ j := fun j => by unfold oC; rw [k7]
  have eoV : ∀ j, oV σ2 j = oV σ j := fun j => by unfold oV; rw [k8]
  have eoF : ∀ j, oF σ2 j = oF σ j := fun j => by unfold oF; rw [k9]
  have e1 : ∀ u, u ≠ t → ∀ i, i < 162 → σ2 1 (162 * u + i) = σ 1 (162 * u + i) := fun u hu i hi => h1 _ (by
    rcases Nat.lt_or_ge u t with q | q
    · left; omega
    · right; omega)
  have eK : ∀ u, u ≠ t → cnt σ2 u = cnt σ u := fun u hu => by unfold cnt; rw [e1 u hu 0 (by omega)]
  have eS : ∀ u, u ≠ t → ∀ v, v < 8 → stp σ2 u v = stp σ u v := fun u hu v hv => by unfold stp; rw [e1 u hu (10 + v) (by omega)]
  have live : ∀ a b c d, XL σ2 a b c d → XL σ a b c d ∨ ((a = 9 ∧ b = t ∧ c = v0 ∧ d = n0) ∧ ad2 a b c d ∉ L ∧ ad2 a b c d ∈ L2) := by
    refine rx_cases σ2 (Or.inl ⟨rfl, rfl, rfl⟩) (Or.inl ⟨rfl, rfl, rfl⟩) (Or.inl ⟨rfl, rfl, rfl⟩) (Or.inl ⟨rfl, rfl, rfl⟩) (fun u hu => Or.inl ⟨eC ▸ hu, rfl, rfl⟩) (fun u hu => Or.inl ⟨eC ▸ hu, rfl, rfl⟩) (fun u hu => Or.inl ⟨eC ▸ hu, rfl, rfl⟩) (fun u v hu hv => Or.inl ⟨eC ▸ hu, hv, rfl⟩) (fun u v hu hv => Or.inl ⟨eC ▸ hu, hv, rfl⟩) (fun u v n hu hv hn => ?_) (fun u hu => Or.inl ⟨hu, rfl, rfl⟩) (fun u hu => Or.inl ⟨hu, rfl, rfl⟩) (fun u k hu hk2 => Or.inl ⟨hu, eD u ▸ hk2, rfl⟩) (fun o ho hx => Or.inl ⟨⟨eO ▸ ho, by rw [← k6]; exact hx⟩, rfl, rfl⟩) (fun o ho hx => Or.inl ⟨⟨eO ▸ ho, by rw [← k6]; exact hx⟩, rfl, rfl⟩) (fun o v ho hx hv => Or.inl ⟨⟨eO ▸ ho, by rw [← k6]; exact hx⟩, hv, rfl⟩)
    by_cases e : u = t
    · subst e
      rcases hst v n hv hn with q | ⟨q1, q2, q3, q4⟩
      · exact Or.inl ⟨ht, hv, q⟩
      · subst q1; subst q2
        exact Or.inr ⟨⟨rfl, rfl, rfl, rfl⟩, q3, q4⟩
    · rw [eS u e v hv] at hn
      exact Or.inl ⟨eC ▸ hu, hv, hn⟩
  refine RX_gen hR (fun a b c d => a = 9 ∧ b = t ∧ c = v0 ∧ d = n0) hL (fun a b c d h => ?_) (fun a b c d a2 b2 c2 d2 _ _ q u _ => by omega) ?_
  · rcases live a b c d h with q | q
    · exact Or.inl ⟨q, had a b c d q⟩
    · exact Or.inr q
  · have A : ∀ a b c d, XL σ a b c d → ¬ (b = t ∧ 4 ≤ a ∧ a ≤ 9) → f2 (ad2 a b c d) = f (ad a b c d) := fun a b c d h hn => by rw [had a b c d h]; exact hf a b c d h hn
    refine rx_cases σ2 ?_ ?_ ?_ ?_ (fun u hu => ?_) (fun u hu => ?_) (fun u hu => ?_) (fun u v hu hv => ?_) (fun u v hu hv => ?_) (fun u v n hu hv hn => ?_) (fun u hu => ?_) (fun u hu => ?_) (fun u k hu hk2 => ?_) (fun o ho hx => ?_) (fun o ho hx => ?_) (fun o v ho hx hv => ?_)
    · rw [A 0 0 0 0 ⟨rfl, rfl, rfl⟩ (by omega), (rx0 hR).2]
      show _ = _
      rw [eC, eO, had 1 0 0 0 ⟨rfl, rfl, rfl⟩, had 2 0 0 0 ⟨rfl, rfl, rfl⟩, had 3 0 0 0 ⟨rfl, rfl, rfl⟩]
    · rw [A 1 0 0 0 ⟨rfl, rfl, rfl⟩ (by omega)]
      obtain ⟨g, _, q1, q2⟩ := rx1 hR
      exact ⟨g, q1, fun u hu => by rw [eC] at hu; rw [had 4 u 0 0 ⟨hu, rfl, rfl⟩]; exact q2 u hu⟩
    · rw [A 2 0 0 0 ⟨rfl, rfl, rfl⟩ (by omega)]
      obtain ⟨g, _, q1, q2⟩ := rx2 hR
      exact ⟨g, q1, fun u hu => by rw [had 10 u 0 0 ⟨hu, rfl, rfl⟩]; exact q2 u hu⟩
    · rw [A 3 0 0 0 ⟨rfl, rfl, rfl⟩ (by omega)]
      obtain ⟨g, _, q1, q2⟩ := rx3 hR
      refine ⟨g, q1, fun o ho => ?_⟩
      rw [eO] at ho
      rw [k6]
      exact ⟨fun hx => by rw [had 13 o 0 0 ⟨⟨ho, hx⟩, rfl, rfl⟩]; exact (q2 o ho).1 hx, (q2 o ho).2⟩
    · rw [eC] at hu
      by_cases e : u = t
      · subst e; exact c4
      · rw [A 4 u 0 0 ⟨hu, rfl, rfl⟩ (by omega), (rx4 hR hu).2]
        show _ = _
        rw [had 5 u 0 0 ⟨hu, rfl, rfl⟩, had 6 u 0 0 ⟨hu, rfl, rfl⟩, eK u e, e1 u e 1 (by omega)]
    · rw [eC] at hu
      by_cases e : u = t
      · subst e; exact c5
      · rw [A 5 u 0 0 ⟨hu, rfl, rfl⟩ (by omega)]
        obtain ⟨g, _, q1, q2⟩ := rx5 hR hu
        exact ⟨g, q1, fun v hv => by rw [e1 u e (2 + v) (by omega)]; exact q2 v hv⟩
    · rw [eC] at hu
      by_cases e : u = t
      · subst e; exact c6
      · rw [A 6 u 0 0 ⟨hu, rfl, rfl⟩ (by omega)]
        obtain ⟨g, _, q1, q2⟩ := rx6 hR hu
        exact ⟨g, q1, fun v hv => by rw [had 7 u v 0 ⟨hu, hv, rfl⟩]; exact q2 v hv⟩
    · rw [eC] at hu
      by_cases e : u = t
      · subst e; exact c7 v hv
      · rw [A 7 u v 0 ⟨hu, hv, rfl⟩ (by omega), (rx7 hR hu hv).2]
        show _ = _
        rw [had 8 u v 0 ⟨hu, hv, rfl⟩, eS u e v hv]
    · rw [eC] at hu
      by_cases e : u = t
      · subst e; exact c8 v hv
      · rw [A 8 u v 0 ⟨hu, hv, rfl⟩ (by omega)]
        obtain ⟨g, _, q1, q2⟩ := rx8 hR hu hv
        exact ⟨g, q1, fun n hn => by rw [eS u e v hv] at hn; rw [had 9 u v n ⟨hu, hv, hn⟩]; exact q2 n hn⟩
    · rw [eC] at hu
      by_cases e : u = t
      · subst e; exact c9 v n hv hn
      · rw [eS u e v hv] at hn
        have h6 := ((hI.2.2.1 u hu).2.2 v hv).1.2
        have s6 : stI u v n + 2 < 162 * u + 162 := by unfold stI; omega
        rw [A 9 u v n ⟨hu, hv, hn⟩ (by omega), (rx9 hR hu hv hn).2]
        show _ = _
        have hlo : 162 * u ≤ stI u v n := by unfold stI; omega
        have cell : ∀ i, i ≤ 2 → σ2 1 (stI u v n + i) = σ 1 (stI u v n + i) := fun i hi => by
          rw [show stI u v n + i = 162 * u + (stI u v n + i - 162 * u) by omega]
          exact e1 u e _ (by omega)
        rw [cell 1 (by omega), cell 2 (by omega), show σ2 1 (stI u v n) = σ 1 (stI u v n) from cell 0 (by omega)]
    · rw [A 10 u 0 0 ⟨hu, rfl, rfl⟩ (by omega), (rx10 hR hu).2]
      show _ = _
      rw [had 11 u 0 0 ⟨hu, rfl, rfl⟩, eD u]
    · rw [A 11 u 0 0 ⟨hu, rfl, rfl⟩ (by omega)]
      obtain ⟨g, _, q1, q2⟩ := rx11 hR hu
      exact ⟨g, q1, fun k hk2 => by rw [eD u] at hk2; rw [had 12 u k 0 ⟨hu, hk2, rfl⟩]; exact q2 k hk2⟩
    · rw [eD u] at hk2
      have hf1 := (hI.2.2.2.2.1 (8 * u + k) (by have := (hI.2.2.2.1 u hu).2; omega) (liv_at hk2 (hI.2.2.2.1 u hu).2)).1.2
      rw [A 12 u k 0 ⟨hu, hk2, rfl⟩ (by omega), (rx12 hR hu hk2).2]
      show _ = _
      rw [efC, efV, k5, had 4 _ 0 0 ⟨hf1, rfl, rfl⟩]
    · rw [eO] at ho
      rw [k6] at hx
      have ho1 := ((hI.2.2.2.2.2 o ho).2 hx).1.2
      rw [A 13 o 0 0 ⟨⟨ho, hx⟩, rfl, rfl⟩ (by omega), (rx13 hR ho hx).2]
      show _ = _
      rw [eoC, eoF, eoV, had 4 _ 0 0 ⟨ho1, rfl, rfl⟩, had 14 o 0 0 ⟨⟨ho, hx⟩, rfl, rfl⟩]
    · rw [eO] at ho
      rw [k6] at hx
      rw [A 14 o 0 0 ⟨⟨ho, hx⟩, rfl, rfl⟩ (by omega)]
      obtain ⟨g, _, q1, q2⟩ := rx14 hR ho hx
      exact ⟨g, q1, fun v hv => by rw [had 15 o v 0 ⟨⟨ho, hx⟩, hv, rfl⟩]; exact q2 v hv⟩
    · rw [eO] at ho
      rw [k6] at hx
      rw [A 15 o v 0 ⟨⟨ho, hx⟩, hv, rfl⟩ (by omega)]
      obtain ⟨g, _, q1, q2⟩ := rx15 hR ho hx hv
      exact ⟨g, q1, by rw [eoF, eoV, k10]; exact q2⟩
end RXU
