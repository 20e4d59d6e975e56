/-! a class more -/
/-- the classes not yet made are blank -/
def Fr (σ : Sg) : Prop := ∀ j, 162 * nC σ ≤ j → j < 972 → σ 1 j = 0
def adC (ad : xAd) (t q fsa cva : Nat) (cv sa : Nat → Nat) : xAd := fun a b c d => if b = t ∧ 4 ≤ a ∧ a ≤ 8 then (if a = 4 then q else if a = 5 then fsa else if a = 6 then cva else if a = 7 then cv c else sa c) else ad a b c d
section RXD
variable {G : hG} {L : List Nat} {f : Nat → va_E} {ad : xAd} {σ : Sg}
theorem rx_addClass (hI : Inv σ) (hF : Fr σ) (hR : RX G L f ad σ) (h6 : nC σ < 6) {q fsa cva : Nat} {L1 : List Nat} {f1 : Nat → va_E} {gc g1 : Nat → Option Nat} {cv sa : Nat → Nat} {x : Int32} (hq : q ∉ L ∧ q ∈ L1) (hL : ∀ a, a ∈ L → a ∈ L1) (hf : ∀ a, a ∈ L → f1 a = f a) (hfq : f1 q = .inr (1, [.int (nI (nC σ)), .ref fsa, .ref cva, .int 0, .int 0]))
    (hfs : fsa ∈ L1 ∧ fsa ∉ L ∧ f1 fsa = hAI G 8 (upd (fun _ => 0) 0 x)) (hcv : cva ∈ L1 ∧ cva ∉ L ∧ f1 cva = hAQ G 4 8 gc)
    (hvs : ∀ v, v < 8 → gc v = some (cv v) ∧ (cv v ∈ L1 ∧ cv v ∉ L ∧ f1 (cv v) = .inr (2, [.ref (sa v), .int 0])) ∧ (sa v ∈ L1 ∧ sa v ∉ L ∧ f1 (sa v) = hAQ G 6 6 (fun _ => none)))
    (hij : ∀ v u, v < 8 → u < 8 → (cv v = cv u → v = u) ∧ (sa v = sa u → v = u)) (he1 : ∀ t, t < nC σ → g1 t = some (ad 4 t 0 0)) :
    RX G L1 (va_up (va_up f1 (ad 1 0 0 0) (hAQ G 3 6 (va_up g1 (nC σ) (some q)))) (ad 0 0 0 0) (.inr (6, [.ref (ad 1 0 0 0), .int (nI (nC σ + 1)), .ref (ad 2 0 0 0), .ref (ad 3 0 0 0), .int (nI (nO σ))])))
      (adC ad (nC σ) q fsa cva cv sa) (mS (mS (mS σ 1 (162 * nC σ + 0) 1) 1 (162 * nC σ + 2) x) 0 0 (nI (nC σ + 1))) := by
  generalize hs2 : mS (mS (mS σ 1 (162 * nC σ + 0) 1) 1 (162 * nC σ + 2) x) 0 0 (nI (nC σ + 1)) = σ2
  generalize hf2 : va_up (va_up f1 (ad 1 0 0 0) (hAQ G 3 6 (va_up g1 (nC σ) (some q)))) (ad 0 0 0 0) (.inr (6, [.ref (ad 1 0 0 0), .int (nI (nC σ + 1)), .ref (ad 2 0 0 0), .ref (ad 3 0 0 0), .int (nI (nO σ))])) = f2
  have h1 : ∀ j, σ2 1 j = if j = 162 * nC σ + 2 then x else if j = 162 * nC σ + 0 then 1 else σ 1 j := fun j => by rw [← hs2, mS_k (by decide), m11, m11]
  have hk : ∀ k, k ≠ 0 → k ≠ 1 → σ2 k = σ k := fun k h h2 => by rw [← hs2, mS_k h, mS_k h2, mS_k h2]
  have eC : nC σ2 = nC σ + 1 := by
    show cN (σ2 0 0) = _
    rw [← hs2, mS_eq]
    exact nI_clamp (by omega)
  have eO : nO σ2 = nO σ := by
    show cN (σ2 0 1) = cN (σ 0 1)
    rw [← hs2, mS_ne _ _ _ (by decide), mS_k (by decide), mS_k (by decide)]
  have k2 := hk 2 (by decide) (by decide)
  have k3 := hk 3 (by decide) (by decide)
  have k4 := hk 4 (by decide) (by decide)
  have k5 := hk 5 (by decide) (by decide)
  have k6 := hk 6 (by decide) (by decide)
  have k7 := hk 7 (by decide) (by decide)
  have k8 := hk 8 (by decide) (by decide)
  have k9 := hk 9 (by decide) (by decide)
  have k10 := hk 10 (by decide) (by decide)
  have eD : ∀ u, dN σ2 u = dN σ u := fun u => by unfold dN; rw [k2]
  have efC : ∀ j, fC σ2 j = fC σ j := fun j => by unfold fC; rw [k3]
  have efV : ∀ j, fV σ2 j = fV σ j := fun j => by unfold fV; rw [k4]
  have eoC : ∀ j, oC σ2 j = oC σ j := fun j => by unfold oC; rw [k7]
  have eoV : ∀ j, oV σ2 j = oV σ j := fun j => by unfold oV; rw [k8]
  have eoF : ∀ j, oF σ2 j = oF σ j := fun j => by unfold oF; rw [k9]
  have e1 : ∀ u, u < nC σ → ∀ i, i < 162 → σ2 1 (162 * u + i) = σ 1 (162 * u + i) := fun u hu i hi => by rw [h1, if_neg (by omega), if_neg (by omega)]
  have eK : ∀ u, u < nC σ → cnt σ2 u = cnt σ u := fun u hu => by unfold cnt; rw [e1 u hu 0 (by omega)]
  have eS : ∀ u, u < nC σ → ∀ v, v < 8 → stp σ2 u v = stp σ u v := fun u hu v hv => by unfold stp; rw [e1 u hu (10 + v) (by omega)]
  have z1 : ∀ i, i < 162 → i ≠ 0 → i ≠ 2 → σ2 1 (162 * nC σ + i) = 0 := fun i hi h h2 => by rw [h1, if_neg (by omega), if_neg (by omega)]; exact hF _ (by omega) (by omega)
  have zS : ∀ v, v < 8 → stp σ2 (nC σ) v = 0 := fun v hv => by unfold stp; rw [z1 (10 + v) (by omega) (by omega) (by omega)]; rfl
  have zK : cnt σ2 (nC σ) = 1 := by
    show cN (σ2 1 (162 * nC σ + 0)) = 1
    rw [h1, if_neg (by omega), if_pos rfl]; rfl
  generalize hA : adC ad (nC σ) q fsa cva cv sa = ad2
  have adn : ∀ a b c d, ¬ (b = nC σ ∧ 4 ≤ a ∧ a ≤ 8) → ad2 a b c d = ad a b c d := fun a b c d h => by rw [← hA, adC, if_neg h]
  have a4 : ad2 4 (nC σ) 0 0 = q := by rw [← hA]; simp [adC]
  have a5 : ad2 5 (nC σ) 0 0 = fsa := by rw [← hA]; simp [adC]
  have a6 : ad2 6 (nC σ) 0 0 = cva := by rw [← hA]; simp [adC]
  have a7 : ∀ v, ad2 7 (nC σ) v 0 = cv v := fun v => by rw [← hA]; simp [adC]
  have a8 : ∀ v, ad2 8 (nC σ) v 0 = sa v := fun v => by rw [← hA]; simp [adC]
  have hX : ∀ a b c d, XL σ a b c d → ¬ (b = nC σ ∧ 4 ≤ a ∧ a ≤ 8) ∨ (10 ≤ a ∧ a ≤ 15) := fun a b c d h => by
    by_cases q : 10 ≤ a ∧ a ≤ 15
    · exact Or.inr q
    · refine Or.inl (fun ⟨z1, z2, z3⟩ => ?_)
      subst z1
      have : a = 4 ∨ a = 5 ∨ a = 6 ∨ a = 7 ∨ a = 8 := by omega
      rcases this with r | r | r | r | r <;> subst r <;> exact absurd h.1 (by omega)
  have had : ∀ a b c d, XL σ a b c d → ad2 a b c d = ad a b c d := fun a b c d h => adn a b c d (by rcases hX a b c d h with z | z <;> omega)
  have l0 : XL σ 0 0 0 0 := ⟨rfl, rfl, rfl⟩
  have l1 : XL σ 1 0 0 0 := ⟨rfl, rfl, rfl⟩
  have m0 := (hR.1 0 0 0 0 l0).1
  have m1 := (hR.1 1 0 0 0 l1).1
  have fO : ∀ a b c d, XL σ a b c d → ¬ a = 0 → ¬ a = 1 → f2 (ad a b c d) = f (ad a b c d) := fun a b c d h n1 n2 => by
    rw [← hf2, va_up_n _ _ (rx_ne hR h l0 (by omega)), va_up_n _ _ (rx_ne hR h l1 (by omega)), hf _ (hR.1 a b c d h).1]
  have fN : ∀ z, z ∉ L → f2 z = f1 z := fun z hz => by
    rw [← hf2, va_up_n _ _ (fun y => hz (by rw [y]; exact m0)), va_up_n _ _ (fun y => hz (by rw [y]; exact m1))]
  have old : ∀ a b c d, XL σ2 a b c d → XL σ a b c d ∨ (b = nC σ ∧ ((a = 4 ∧ c = 0 ∧ d = 0) ∨ (a = 5 ∧ c = 0 ∧ d = 0) ∨ (a = 6 ∧ c = 0 ∧ d = 0) ∨ (a = 7 ∧ c < 8 ∧ d = 0) ∨ (a = 8 ∧ c < 8 ∧ d = 0))) := by
    refine rx_cases σ2 (Or.inl l0) (Or.inl l1) (Or.inl ⟨rfl, rfl, rfl⟩) (Or.inl ⟨rfl, rfl, rfl⟩) (fun u hu => ?_) (fun u hu => ?_) (fun u hu => ?_) (fun u v hu hv => ?_) (fun u v hu hv => ?_) (fun u v n hu hv hn => ?_) (fun u hu => Or.inl ⟨hu, rfl, rfl⟩) (fun u hu => Or.inl ⟨hu, rfl, rfl⟩) (fun u k hu hk2 => Or.inl ⟨hu, eD u ▸ hk2, rfl⟩) (fun o ho hx => Or.inl ⟨⟨eO ▸ ho, by rw [← k6]; exact hx⟩, rfl, rfl⟩) (fun o ho hx => Or.inl ⟨⟨eO ▸ ho, by rw [← k6]; exact hx⟩, rfl, rfl⟩) (fun o v ho hx hv => Or.inl ⟨⟨eO ▸ ho, by rw [← k6]; exact hx⟩, hv, rfl⟩)
    · rw [eC] at hu
      rcases Nat.lt_or_ge u (nC σ) with z | z
      · exact Or.inl ⟨z, rfl, rfl⟩
      · exact Or.inr ⟨by omega, by omega⟩
    · rw [eC] at hu
      rcases Nat.lt_or_ge u (nC σ) with z | z
      · exact Or.inl ⟨z, rfl, rfl⟩
      · exact Or.inr ⟨by omega, by omega⟩
    · rw [eC] at hu
      rcases Nat.lt_or_ge u (nC σ) with z | z
      · exact Or.inl ⟨z, rfl, rfl⟩
      · exact Or.inr ⟨by omega, by omega⟩
    · rw [eC] at hu
      rcases Nat.lt_or_ge u (nC σ) with z | z
      · exact Or.inl ⟨z, hv, rfl⟩
      · exact Or.inr ⟨by omega, by omega⟩
    · rw [eC] at hu
      rcases Nat.lt_or_ge u (nC σ) with z | z
      · exact Or.inl ⟨z, hv, rfl⟩
      · exact Or.inr ⟨by omega, by omega⟩
    · rw [eC] at hu
      rcases Nat.lt_or_ge u (nC σ) with z | z
      · rw [eS u z v hv] at hn
        exact Or.inl ⟨z, hv, hn⟩
      · have : u = nC σ := by omega
        rw [this, zS v hv] at hn
        omega
  refine RX_gen hR (fun a b c d => b = nC σ ∧ ((a = 4 ∧ c = 0 ∧ d = 0) ∨ (a = 5 ∧ c = 0 ∧ d = 0) ∨ (a = 6 ∧ c = 0 ∧ d = 0) ∨ (a = 7 ∧ c < 8 ∧ d = 0) ∨ (a = 8 ∧ c < 8 ∧ d = 0))) hL (fun a b c d h => ?_) (fun a b c d a2 b2 c2 d2 _ _ p u e => ?_) ?_
  · rcases old a b c d h with z | z
    · exact Or.inl ⟨z, had a b c d z⟩
    · refine Or.inr ⟨z, ?_⟩
      obtain ⟨rfl, ⟨rfl, rfl, rfl⟩ | ⟨rfl, rfl, rfl⟩ | ⟨rfl, rfl, rfl⟩ | ⟨rfl, hc, rfl⟩ | ⟨rfl, hc, rfl⟩⟩ := z
      · rw [a4]; exact hq
      · rw [a5]; exact ⟨hfs.2.1, hfs.1⟩
      · rw [a6]; exact ⟨hcv.2.1, hcv.1⟩
      · rw [a7]; exact ⟨(hvs c hc).2.1.2.1, (hvs c hc).2.1.1⟩
      · rw [a8]; exact ⟨(hvs c hc).2.2.2.1, (hvs c hc).2.2.1⟩
  · obtain ⟨rfl, p⟩ := p
    obtain ⟨rfl, u⟩ := u
    rcases p with ⟨rfl, rfl, rfl⟩ | ⟨rfl, rfl, rfl⟩ | ⟨rfl, rfl, rfl⟩ | ⟨rfl, hc, rfl⟩ | ⟨rfl, hc, rfl⟩ <;> rcases u with ⟨rfl, rfl, rfl⟩ | ⟨rfl, rfl, rfl⟩ | ⟨rfl, rfl, rfl⟩ | ⟨rfl, hc2, rfl⟩ | ⟨rfl, hc2, rfl⟩ <;> simp only [a4, a5, a6, a7, a8] at e
    all_goals first
      | exact ⟨rfl, rfl, rfl, rfl⟩
      | exact ⟨rfl, rfl, (hij _ _ hc hc2).1 e, rfl⟩
      | exact ⟨rfl, rfl, (hij _ _ hc hc2).2 e, rfl⟩
      | (exfalso
         have e2 := congrArg f1 e
         first | rw [hfq] at e2 | rw [hfs.2.2] at e2 | rw [hcv.2.2] at e2 | rw [(hvs _ hc).2.1.2.2] at e2 | rw [(hvs _ hc).2.2.2.2] at e2
         first | rw [hfq] at e2 | rw [hfs.2.2] at e2 | rw [hcv.2.2] at e2 | rw [(hvs _ hc).2.1.2.2] at e2 | rw [(hvs _ hc).2.2.2.2] at e2 | rw [(hvs _ hc2).2.1.2.2] at e2 | rw [(hvs _ hc2).2.2.2.2] at e2
         exact absurd e2 (by simp))
  · have lt : ∀ u, u < nC σ2 → ¬ u = nC σ → u < nC σ := fun u hu h => by omega
    refine rx_cases σ2 ?_ ?_ ?_ ?_ (fun u hu => ?_) (fun u hu => ?_) (fun u hu => ?_) (fun u v hu hv => ?_) (fun u v hu hv => ?_) (fun u v n hu hv hn => ?_) (fun u hu => ?_) (fun u hu => ?_) (fun u k hu hk2 => ?_) (fun o ho hx => ?_) (fun o ho hx => ?_) (fun o v ho hx hv => ?_)
    · rw [had 0 0 0 0 l0, ← hf2, va_up_s]
      show _ = _
      rw [eC, eO, had 1 0 0 0 l1, had 2 0 0 0 ⟨rfl, rfl, rfl⟩, had 3 0 0 0 ⟨rfl, rfl, rfl⟩]
    · rw [had 1 0 0 0 l1, ← hf2, va_up_n _ _ (rx_ne hR l1 l0 (by omega)), va_up_s]
      refine ⟨_, rfl, fun u hu => ?_⟩
      by_cases e : u = nC σ
      · rw [e, va_up_s, a4]
      · rw [va_up_n _ _ e, he1 u (lt u hu e), had 4 u 0 0 ⟨lt u hu e, rfl, rfl⟩]
    · rw [had 2 0 0 0 ⟨rfl, rfl, rfl⟩, fO 2 0 0 0 ⟨rfl, rfl, rfl⟩ (by decide) (by decide)]
      obtain ⟨g, _, q1, q2⟩ := rx2 hR
      exact ⟨g, q1, fun u hu => by rw [had 10 u 0 0 ⟨hu, rfl, rfl⟩]; exact q2 u hu⟩
    · rw [had 3 0 0 0 ⟨rfl, rfl, rfl⟩, fO 3 0 0 0 ⟨rfl, rfl, rfl⟩ (by decide) (by decide)]
      obtain ⟨g, _, q1, q2⟩ := rx3 hR
      refine ⟨g, q1, fun o ho => ?_⟩
      rw [eO] at ho
      rw [k6]
      exact ⟨fun hx => by rw [had 13 o 0 0 ⟨⟨ho, hx⟩, rfl, rfl⟩]; exact (q2 o ho).1 hx, (q2 o ho).2⟩
    · by_cases e : u = nC σ
      · subst e
        rw [a4, fN q hq.1, hfq]
        show _ = _
        rw [a5, a6, zK, z1 1 (by decide) (by decide) (by decide)]; rfl
      · have hu := lt u hu e
        rw [had 4 u 0 0 ⟨hu, rfl, rfl⟩, fO 4 u 0 0 ⟨hu, rfl, rfl⟩ (by decide) (by decide), (rx4 hR hu).2]
        show _ = _
        rw [had 5 u 0 0 ⟨hu, rfl, rfl⟩, had 6 u 0 0 ⟨hu, rfl, rfl⟩, eK u hu, e1 u hu 1 (by omega)]
    · by_cases e : u = nC σ
      · subst e
        rw [a5, fN fsa hfs.2.1, hfs.2.2]
        refine ⟨_, rfl, fun v hv => ?_⟩
        rw [h1]
        by_cases e2 : v = 0
        · rw [if_pos (by omega), e2]; rfl
        · rw [if_neg (by omega), if_neg (by omega), hF _ (by omega) (by omega), upd, if_neg e2]
      · have hu := lt u hu e
        rw [had 5 u 0 0 ⟨hu, rfl, rfl⟩, fO 5 u 0 0 ⟨hu, rfl, rfl⟩ (by decide) (by decide)]
        obtain ⟨g, _, q1, q2⟩ := rx5 hR hu
        exact ⟨g, q1, fun v hv => by rw [e1 u hu (2 + v) (by omega)]; exact q2 v hv⟩
    · by_cases e : u = nC σ
      · subst e
        rw [a6, fN cva hcv.2.1, hcv.2.2]
        exact ⟨_, rfl, fun v hv => by rw [a7]; exact (hvs v hv).1⟩
      · have hu := lt u hu e
        rw [had 6 u 0 0 ⟨hu, rfl, rfl⟩, fO 6 u 0 0 ⟨hu, rfl, rfl⟩ (by decide) (by decide)]
        obtain ⟨g, _, q1, q2⟩ := rx6 hR hu
        exact ⟨g, q1, fun v hv => by rw [had 7 u v 0 ⟨hu, hv, rfl⟩]; exact q2 v hv⟩
    · by_cases e : u = nC σ
      · subst e
        rw [a7, fN (cv v) (hvs v hv).2.1.2.1, (hvs v hv).2.1.2.2]
        show _ = _
        rw [a8, zS v hv]; rfl
      · have hu := lt u hu e
        rw [had 7 u v 0 ⟨hu, hv, rfl⟩, fO 7 u v 0 ⟨hu, hv, rfl⟩ (by decide) (by decide), (rx7 hR hu hv).2]
        show _ = _
        rw [had 8 u v 0 ⟨hu, hv, rfl⟩, eS u hu v hv]
    · by_cases e : u = nC σ
      · subst e
        rw [a8, fN (sa v) (hvs v hv).2.2.2.1, (hvs v hv).2.2.2.2]
        exact ⟨_, rfl, fun n hn => by rw [zS v hv] at hn; omega⟩
      · have hu := lt u hu e
        rw [had 8 u v 0 ⟨hu, hv, rfl⟩, fO 8 u v 0 ⟨hu, hv, rfl⟩ (by decide) (by decide)]
        obtain ⟨g, _, q1, q2⟩ := rx8 hR hu hv
        exact ⟨g, q1, fun n hn => by rw [eS u hu v hv] at hn; rw [had 9 u v n ⟨hu, hv, hn⟩]; exact q2 n hn⟩
    · by_cases e : u = nC σ
      · subst e
        rw [zS v hv] at hn
        omega
      · have hu := lt u hu e
        rw [eS u hu v hv] at hn
        have h6 := ((hI.2.2.1 u hu).2.2 v hv).1.2
        have s6 : stI u v n + 2 < 162 * u + 162 := by unfold stI; omega
        have hlo : 162 * u ≤ stI u v n := by unfold stI; omega
        have cell : ∀ i, i ≤ 2 → σ2 1 (stI u v n + i) = σ 1 (stI u v n + i) := fun i hi => by
          rw [show stI u v n + i = 162 * u + (stI u v n + i - 162 * u) by omega]
          exact e1 u hu _ (by omega)
        rw [had 9 u v n ⟨hu, hv, hn⟩, fO 9 u v n ⟨hu, hv, hn⟩ (by decide) (by decide), (rx9 hR hu hv hn).2]
        show _ = _
        rw [cell 1 (by omega), cell 2 (by omega), show σ2 1 (stI u v n) = σ 1 (stI u v n) from cell 0 (by omega)]
    · rw [had 10 u 0 0 ⟨hu, rfl, rfl⟩, fO 10 u 0 0 ⟨hu, rfl, rfl⟩ (by decide) (by decide), (rx10 hR hu).2]
      show _ = _
      rw [had 11 u 0 0 ⟨hu, rfl, rfl⟩, eD u]
    · rw [had 11 u 0 0 ⟨hu, rfl, rfl⟩, fO 11 u 0 0 ⟨hu, rfl, rfl⟩ (by decide) (by decide)]
      obtain ⟨g, _, q1, q2⟩ := rx11 hR hu
      exact ⟨g, q1, fun k hk2 => by rw [eD u] at hk2; rw [had 12 u k 0 ⟨hu, hk2, rfl⟩]; exact q2 k hk2⟩
    · rw [eD u] at hk2
      have hf1 := (hI.2.2.2.2.1 (8 * u + k) (by have := (hI.2.2.2.1 u hu).2; omega) (liv_at hk2 (hI.2.2.2.1 u hu).2)).1.2
      rw [had 12 u k 0 ⟨hu, hk2, rfl⟩, fO 12 u k 0 ⟨hu, hk2, rfl⟩ (by decide) (by decide), (rx12 hR hu hk2).2]
      show _ = _
      rw [efC, efV, k5, had 4 _ 0 0 ⟨hf1, rfl, rfl⟩]
    · rw [eO] at ho
      rw [k6] at hx
      have ho1 := ((hI.2.2.2.2.2 o ho).2 hx).1.2
      rw [had 13 o 0 0 ⟨⟨ho, hx⟩, rfl, rfl⟩, fO 13 o 0 0 ⟨⟨ho, hx⟩, rfl, rfl⟩ (by decide) (by decide), (rx13 hR ho hx).2]
      show _ = _
      rw [eoC, eoF, eoV, had 4 _ 0 0 ⟨ho1, rfl, rfl⟩, had 14 o 0 0 ⟨⟨ho, hx⟩, rfl, rfl⟩]
    · rw [eO] at ho
      rw [k6] at hx
      rw [had 14 o 0 0 ⟨⟨ho, hx⟩, rfl, rfl⟩, fO 14 o 0 0 ⟨⟨ho, hx⟩, rfl, rfl⟩ (by decide) (by decide)]
      obtain ⟨g, _, q1, q2⟩ := rx14 hR ho hx
      exact ⟨g, q1, fun v hv => by rw [had 15 o v 0 ⟨⟨ho, hx⟩, hv, rfl⟩]; exact q2 v hv⟩
    · rw [eO] at ho
      rw [k6] at hx
      rw [had 15 o v 0 ⟨⟨ho, hx⟩, hv, rfl⟩, fO 15 o v 0 ⟨⟨ho, hx⟩, hv, rfl⟩ (by decide) (by decide)]
      obtain ⟨g, _, q1, q2⟩ := rx15 hR ho hx hv
      exact ⟨g, q1, by rw [eoF, eoV, k10]; exact q2⟩
end RXD
