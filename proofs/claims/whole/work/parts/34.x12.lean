/-! an object's birth -/
theorem crL_10 {σ : Sg} {F o : Nat} : ∀ n j, crL σ F o n 10 j = if 64 * o + 8 * fV σ F ≤ j ∧ j < 64 * o + 8 * fV σ F + n then 0 else σ 10 j := by
  intro n
  induction n with
  | zero =>
    intro j
    rw [if_neg (by omega)]
    show crS σ F o 10 j = _
    rw [crS, mS_nk _ _ _ _ (by decide), mS_nk _ _ _ _ (by decide), mS_nk _ _ _ _ (by decide), mS_nk _ _ _ _ (by decide), mS_nk _ _ _ _ (by decide)]
  | succ n ih =>
    intro j
    rw [crL, mk1]
    by_cases h : j = cel o (fV σ F) n
    · rw [if_pos h, if_pos (by unfold cel at h; omega)]
    · rw [if_neg h, ih]
      unfold cel at h
      by_cases h2 : 64 * o + 8 * fV σ F ≤ j ∧ j < 64 * o + 8 * fV σ F + n
      · rw [if_pos h2, if_pos (by omega)]
      · rw [if_neg h2, if_neg (by omega)]
/-- the state with one object more, in its parts -/
def crP (σ σ2 : Sg) (F o : Nat) : Prop := (∀ k, 1 ≤ k → k ≤ 5 → σ2 k = σ k) ∧ (σ2 0 0 = σ 0 0 ∧ σ2 0 1 = nI (o + 1)) ∧ (∀ u, σ2 6 u = if u = o then 1 else σ 6 u) ∧ (∀ u, σ2 7 u = if u = o then nI (fC σ F) else σ 7 u) ∧ (∀ u, σ2 8 u = if u = o then nI (fV σ F) else σ 8 u) ∧ (∀ u, σ2 9 u = if u = o then nI (fV σ F) else σ 9 u) ∧ ∀ j, σ2 10 j = if 64 * o + 8 * fV σ F ≤ j ∧ j < 64 * o + 8 * fV σ F + 8 then 0 else σ 10 j
theorem crP_of (σ : Sg) (F o : Nat) : crP σ (crL σ F o 8) F o := by
  have K : ∀ k j, k ≠ 10 → crL σ F o 8 k j = crS σ F o k j := fun k j h => crL_k 8 h j
  refine ⟨fun k h1 h5 => ?_, ⟨?_, ?_⟩, fun u => ?_, fun u => ?_, fun u => ?_, fun u => ?_, fun j => crL_10 8 j⟩
  · funext j
    rw [K k j (by omega), crS, mS_nk _ _ _ _ (by omega), mS_nk _ _ _ _ (by omega), mS_nk _ _ _ _ (by omega), mS_nk _ _ _ _ (by omega), mS_nk _ _ _ _ (by omega)]
  · rw [K 0 0 (by decide), crS, mS_nk _ _ _ _ (by decide), mS_nk _ _ _ _ (by decide), mS_nk _ _ _ _ (by decide), mS_nk _ _ _ _ (by decide), mS_ne _ _ _ (by decide)]
  · rw [K 0 1 (by decide), crS, mS_nk _ _ _ _ (by decide), mS_nk _ _ _ _ (by decide), mS_nk _ _ _ _ (by decide), mS_nk _ _ _ _ (by decide), mS_eq]
  · rw [K 6 u (by decide), crS, mS_nk _ _ _ _ (by decide), mS_nk _ _ _ _ (by decide), mS_nk _ _ _ _ (by decide), mk1, mS_nk _ _ _ _ (by decide)]
  · rw [K 7 u (by decide), crS, mS_nk _ _ _ _ (by decide), mS_nk _ _ _ _ (by decide), mk1, mS_nk _ _ _ _ (by decide), mS_nk _ _ _ _ (by decide)]
  · rw [K 8 u (by decide), crS, mS_nk _ _ _ _ (by decide), mk1, mS_nk _ _ _ _ (by decide), mS_nk _ _ _ _ (by decide), mS_nk _ _ _ _ (by decide)]
  · rw [K 9 u (by decide), crS, mk1, mS_nk _ _ _ _ (by decide), mS_nk _ _ _ _ (by decide), mS_nk _ _ _ _ (by decide), mS_nk _ _ _ _ (by decide)]
theorem iv_cr {σ σ2 : Sg} (hI : Iv σ) {F : Nat} (hF : F < 32) (hl : liv σ F) (h24 : nO σ < 24) (hP : crP σ σ2 F (nO σ)) : Iv σ2 := by
  obtain ⟨hk, ⟨k00, k01⟩, h6, h7, h8, h9, h10⟩ := hP
  have eC : nC σ2 = nC σ := by unfold nC; rw [k00]
  have eO : nO σ2 = nO σ + 1 := by show cN (σ2 0 1) = _; rw [k01]; exact nI_clamp (by omega)
  have k1 := hk 1 (by decide) (by decide)
  have eK : ∀ u, cnt σ2 u = cnt σ u := fun u => by unfold cnt; rw [k1]
  have eD : ∀ u, dN σ2 u = dN σ u := fun u => by unfold dN; rw [hk 2 (by decide) (by decide)]
  have efC : ∀ j, fC σ2 j = fC σ j := fun j => by unfold fC; rw [hk 3 (by decide) (by decide)]
  have efV : ∀ j, fV σ2 j = fV σ j := fun j => by unfold fV; rw [hk 4 (by decide) (by decide)]
  obtain ⟨⟨⟨a1, a2⟩, ⟨b1, b2⟩, c, d, e, g⟩, hFr⟩ := hI
  obtain ⟨⟨f1, f2⟩, ⟨f3, f4⟩, f5⟩ := e F hF hl
  have ck8 := (c _ f2).1.2.2
  have cC : cN (nI (fC σ F)) = fC σ F := nI_clamp (by omega)
  have cV : cN (nI (fV σ F)) = fV σ F := nI_clamp (by omega)
  refine ⟨⟨⟨by rw [k00, eC]; exact a1, by rw [eC]; exact a2⟩, ⟨by rw [k01, eO], by rw [eO]; omega⟩, fun t ht => InvC_same (fun i _ => by rw [k1]) (c t (eC ▸ ht)), fun th hth => by rw [eD, hk 2 (by decide) (by decide)]; exact d th hth, fun j hj hl2 => ?_, fun u hu => ?_⟩, fun j hj hj2 => by rw [eC] at hj; rw [k1]; exact hFr j hj hj2⟩
  · have hl3 : liv σ j := by unfold liv at hl2 ⊢; rw [eD] at hl2; exact hl2
    obtain ⟨⟨y1, y2⟩, ⟨y3, y4⟩, y5⟩ := e j hj hl3
    unfold InvF
    rw [efC, efV, eC, eO, eK, hk 3 (by decide) (by decide), hk 4 (by decide) (by decide), hk 5 (by decide) (by decide)]
    refine ⟨⟨y1, y2⟩, ⟨y3, y4⟩, fun u hu hp => ?_⟩
    obtain ⟨z1, z2⟩ := y5 u hu hp
    have hne : u ≠ nO σ := by omega
    refine ⟨by omega, fun hx => ?_⟩
    rw [h6, if_neg hne] at hx
    rw [h7, if_neg hne]
    have e9 : oF σ2 u = oF σ u := by unfold oF; rw [h9, if_neg hne]
    rw [e9]
    exact z2 hx
  · rw [eO] at hu
    by_cases q : u = nO σ
    · subst q
      rw [h6, if_pos rfl]
      refine ⟨Or.inr rfl, fun _ => ?_⟩
      have e7 : oC σ2 (nO σ) = fC σ F := by unfold oC; rw [h7, if_pos rfl]; exact cC
      have e8 : oV σ2 (nO σ) = fV σ F := by unfold oV; rw [h8, if_pos rfl]; exact cV
      have e9 : oF σ2 (nO σ) = fV σ F := by unfold oF; rw [h9, if_pos rfl]; exact cV
      unfold InvO
      rw [e7, e8, e9, eC, eK, h7, if_pos rfl, h8, if_pos rfl, h9, if_pos rfl]
      refine ⟨⟨rfl, f2⟩, ⟨rfl, f4⟩, ⟨rfl, Nat.le_refl _⟩, fun v k q1 q2 hk3 => ?_⟩
      rw [h10, if_pos (by omega)]
      rw [isVal_i]; decide
    · rw [h6, if_neg q]
      refine ⟨(g u (by omega)).1, fun hx => ?_⟩
      have hO := (g u (by omega)).2 hx
      exact InvO_same (by rw [eC]; exact Nat.le_refl _) (by rw [h7, if_neg q]) (by rw [h8, if_neg q]) (by rw [h9, if_neg q]) (by rw [eK]; exact Nat.le_refl _) (fun v k hv hk3 => by rw [h10, if_neg (by omega)]) (c _ hO.1.2).1.2.2 hO
theorem iv_create {σ : Sg} (hI : Iv σ) (thread : Int32) : Iv (M_create σ thread).2 := by
  rw [M_create]
  refine iv_wif (fun h1 => iv_wif (fun _ => hI) (fun h0 => iv_wif (fun _ => hI) (fun h24 => ?_))) (fun _ => hI)
  obtain ⟨th, hth, rfl⟩ := h1
  have ct : cN (nI th) = th := nI_clamp (by omega)
  rw [ct] at h0 ⊢
  have hd8 := (hI.1.2.2.2.1 th hth).2
  have hO24 := hI.1.2.1.2
  have hP := crP_of σ (topF σ th) (nO σ)
  have hlv := topF_liv h0 hd8
  have hi := iv_cr hI (topF_lt hth hd8) hlv (by omega) hP
  generalize hs : crL σ (topF σ th) (nO σ) 8 = s at *
  obtain ⟨hk, ⟨k00, k01⟩, h6, h7, h8, h9, h10⟩ := hP
  show Iv (mS s 5 (topF σ th) (σ 5 (topF σ th) ||| (1 : Int32) <<< (nI (nO σ) &&& 31)))
  have e5 : σ 5 (topF σ th) = s 5 (topF σ th) := by rw [hk 5 (by decide) (by decide)]
  rw [e5]
  obtain ⟨⟨f1, f2⟩, ⟨f3, f4⟩, f5⟩ := hI.1.2.2.2.2.1 _ (topF_lt hth hd8) hlv
  have ck8 := (hI.1.2.2.1 _ f2).1.2.2
  refine iv_pin hi (topF_lt hth hd8) (by unfold liv dN at hlv ⊢; rw [hk 2 (by decide) (by decide)]; exact hlv) (by show nO σ < cN (s 0 1); rw [k01, show cN (nI (nO σ + 1)) = nO σ + 1 from nI_clamp (by omega)]; omega) (fun _ => ⟨?_, ?_⟩)
  · rw [h7, if_pos rfl, hk 3 (by decide) (by decide), f1]
  · show cN (s 9 (nO σ)) ≤ cN (s 4 (topF σ th))
    rw [h9, if_pos rfl, hk 4 (by decide) (by decide)]
    exact Nat.le_of_eq (nI_clamp (by omega))
section XD12
variable {G : hG} {L : List Nat} {f : Nat → va_E} {ad : xAd} {σ : Sg}
theorem vr_in {rr : Nat → Nat} {e : va_E} {a : Nat} (h : a ∈ (List.range 8).map rr) : vr_up f ((List.range 8).map rr) e a = e := by
  first | exact vr_up_s _ _ h | simp [vr_up, h]
theorem vr_out {rr : Nat → Nat} {e : va_E} {a : Nat} (h : a ∉ (List.range 8).map rr) : vr_up f ((List.range 8).map rr) e a = f a := by
  first | exact vr_up_n _ _ h | simp [vr_up, h]
theorem ob_facts {q hi : Nat} {ver : Int32} {e0 : va_E} {w : va_W} (hq : q ∉ L) (hp : ∃ (rr : Nat → Nat) (q2 : Nat), (∀ i j, i < 8 → j < 8 → rr i = rr j → i = j) ∧ (∀ i, i < 8 → rr i ∉ L ++ [q]) ∧ q2 ∉ (L ++ [q]) ++ (List.range 8).map rr ∧ w = va_pl (((L ++ [q]) ++ (List.range 8).map rr) ++ [q2]) (va_up (va_up (vr_up (va_up f q e0) ((List.range 8).map rr) (hAI G 8 (fun _ => 0))) q2 (hAQ G 8 8 (fun i => if i < 8 then some (rr i) else none))) q (.inr (5, [.ref hi, .int ver, .int ver, .ref q2])))) :
    ∃ (L1 : List Nat) (F1 : Nat → va_E) (q2 : Nat) (rr : Nat → Nat) (g : Nat → Option Nat), w = va_pl L1 F1 ∧ (∀ a, a ∈ L → a ∈ L1) ∧ (∀ a, a ∈ L → F1 a = f a) ∧ (q ∈ L1 ∧ F1 q = .inr (5, [.ref hi, .int ver, .int ver, .ref q2])) ∧ (q2 ∈ L1 ∧ q2 ∉ L ∧ F1 q2 = hAQ G 8 8 g) ∧ (∀ v, v < 8 → g v = some (rr v) ∧ rr v ∈ L1 ∧ rr v ∉ L ∧ F1 (rr v) = hAI G 8 (fun _ => 0)) ∧ (∀ i j, i < 8 → j < 8 → rr i = rr j → i = j) := by
  obtain ⟨rr, q2, h1, h2, h3, rfl⟩ := hp
  have m : ∀ v, v < 8 → rr v ∈ (List.range 8).map rr := fun v hv => List.mem_map.mpr ⟨v, List.mem_range.mpr hv, rfl⟩
  have nin : ∀ a, a ∈ L ++ [q] → a ∉ (List.range 8).map rr := fun a ha hm => by
    obtain ⟨v, hv, e⟩ := List.mem_map.mp hm
    exact h2 v (List.mem_range.mp hv) (e ▸ ha)
  have hqL : q ∈ L ++ [q] := List.mem_append_right _ (List.mem_singleton.mpr rfl)
  have hq2 : ∀ a, a ∈ L ++ [q] → a ≠ q2 := fun a ha e => h3 (List.mem_append_left _ (e ▸ ha))
  refine ⟨_, _, q2, rr, (fun i => if i < 8 then some (rr i) else none), rfl, fun a ha => List.mem_append_left _ (List.mem_append_left _ (List.mem_append_left _ ha)), fun a ha => ?_, ⟨List.mem_append_left _ (List.mem_append_left _ hqL), va_up_s _ _ _⟩, ⟨List.mem_append_right _ (List.mem_singleton.mpr rfl), fun z => h3 (List.mem_append_left _ (List.mem_append_left _ z)), ?_⟩, fun v hv => ⟨if_pos hv, List.mem_append_left _ (List.mem_append_right _ (m v hv)), fun z => h2 v hv (List.mem_append_left _ z), ?_⟩, h1⟩
  · have ha2 : a ∈ L ++ [q] := List.mem_append_left _ ha
    have hne : a ≠ q := fun e => hq (e ▸ ha)
    rw [va_up_n _ _ hne, va_up_n _ _ (hq2 a ha2), vr_out (nin a ha2), va_up_n _ _ hne]
  · rw [va_up_n _ _ (hq2 q hqL).symm, va_up_s]
  · have n1 : rr v ≠ q := fun e => h2 v hv (by rw [e]; exact hqL)
    have n2 : rr v ≠ q2 := fun e => h3 (List.mem_append_right _ (by rw [← e]; exact m v hv))
    rw [va_up_n _ _ n1, va_up_n _ _ n2, vr_in (m v hv)]
theorem rx_create (hI : Inv σ) (hR : RX G L f ad σ) {F : Nat} (hF : F < 32) (hl : liv σ F) (h24 : nO σ < 24) {σ2 : Sg} (hP : crP σ σ2 F (nO σ)) {q q2 : Nat} {L1 : List Nat} {F1 : Nat → va_E} {g g3 : Nat → Option Nat} {rr : Nat → Nat} (hq : q ∉ L) (hL : ∀ a, a ∈ L → a ∈ L1) (hf : ∀ a, a ∈ L → F1 a = f a) (hfq : q ∈ L1 ∧ F1 q = .inr (5, [.ref (ad 4 (fC σ F) 0 0), .int (nI (fV σ F)), .int (nI (fV σ F)), .ref q2])) (hq2 : q2 ∈ L1 ∧ q2 ∉ L ∧ F1 q2 = hAQ G 8 8 g) (hrr : ∀ v, v < 8 → g v = some (rr v) ∧ rr v ∈ L1 ∧ rr v ∉ L ∧ F1 (rr v) = hAI G 8 (fun _ => 0)) (hij : ∀ i j, i < 8 → j < 8 → rr i = rr j → i = j)
    (he3 : ∀ o, o < nO σ → (σ 6 o = 1 → g3 o = some (ad 13 o 0 0)) ∧ (¬ σ 6 o = 1 → g3 o = none)) :
    RX G L1 (va_up (va_up F1 (ad 3 0 0 0) (hAQ G 7 24 (va_up g3 (nO σ) (some q)))) (ad 0 0 0 0) (.inr (6, [.ref (ad 1 0 0 0), .int (nI (nC σ)), .ref (ad 2 0 0 0), .ref (ad 3 0 0 0), .int (nI (nO σ + 1))])))
      (fun a b c d => if b = nO σ ∧ 13 ≤ a ∧ a ≤ 15 then (if a = 13 then q else if a = 14 then q2 else rr c) else ad a b c d) σ2 := by
  obtain ⟨hk, ⟨k00, k01⟩, h6, h7, h8, h9, h10⟩ := hP
  have eC : nC σ2 = nC σ := by unfold nC; rw [k00]
  have eO : nO σ2 = nO σ + 1 := by show cN (σ2 0 1) = _; rw [k01]; exact nI_clamp (by omega)
  obtain ⟨⟨f1, f2⟩, ⟨f3, f4⟩, f5⟩ := hI.2.2.2.2.1 F hF hl
  have ck8 := (hI.2.2.1 _ f2).1.2.2
  have hC6 := hI.1.2
  have cC : cN (nI (fC σ F)) = fC σ F := nI_clamp (by omega)
  have cV : cN (nI (fV σ F)) = fV σ F := nI_clamp (by omega)
  generalize hA : (fun a b c d => if b = nO σ ∧ 13 ≤ a ∧ a ≤ 15 then (if a = 13 then q else if a = 14 then q2 else rr c) else ad a b c d : xAd) = ad2
  have adn : ∀ a b c d, ¬ (b = nO σ ∧ 13 ≤ a ∧ a ≤ 15) → ad2 a b c d = ad a b c d := fun a b c d h => by rw [← hA]; exact if_neg h
  have a13 : ad2 13 (nO σ) 0 0 = q := by rw [← hA]; simp
  have a14 : ad2 14 (nO σ) 0 0 = q2 := by rw [← hA]; simp
  have a15 : ∀ v, ad2 15 (nO σ) v 0 = rr v := fun v => by rw [← hA]; simp
  have had : ∀ a b c d, XL σ a b c d → ad2 a b c d = ad a b c d := fun a b c d h => adn a b c d (fun ⟨z1, z2, z3⟩ => by
    subst z1
    have : a = 13 ∨ a = 14 ∨ a = 15 := by omega
    rcases this with r | r | r <;> subst r <;> exact absurd h.1.1 (by omega))
  have l0 : XL σ 0 0 0 0 := ⟨rfl, rfl, rfl⟩
  have l3 : XL σ 3 0 0 0 := ⟨rfl, rfl, rfl⟩
  have m0 := (hR.1 0 0 0 0 l0).1
  have m3 := (hR.1 3 0 0 0 l3).1
  generalize hf2 : va_up (va_up F1 (ad 3 0 0 0) (hAQ G 7 24 (va_up g3 (nO σ) (some q)))) (ad 0 0 0 0) (.inr (6, [.ref (ad 1 0 0 0), .int (nI (nC σ)), .ref (ad 2 0 0 0), .ref (ad 3 0 0 0), .int (nI (nO σ + 1))])) = F2
  have fO : ∀ a b c d, XL σ a b c d → ¬ a = 0 → ¬ a = 3 → F2 (ad a b c d) = f (ad a b c d) := fun a b c d h n1 n2 => by
    rw [← hf2, va_up_n _ _ (rx_ne hR h l0 (by omega)), va_up_n _ _ (rx_ne hR h l3 (by omega)), hf _ (hR.1 a b c d h).1]
  have fN : ∀ z, z ∉ L → F2 z = F1 z := fun z hz => by
    rw [← hf2, va_up_n _ _ (fun y => hz (by rw [y]; exact m0)), va_up_n _ _ (fun y => hz (by rw [y]; exact m3))]
  have shp : ∀ a c d, XL σ2 a (nO σ) c d → 13 ≤ a → (a = 13 ∧ c = 0 ∧ d = 0) ∨ (a = 14 ∧ c = 0 ∧ d = 0) ∨ (a = 15 ∧ c < 8 ∧ d = 0) := fun a c d h h13 => by
    match a, h with
    | 13, ⟨_, e2, e3⟩ => exact Or.inl ⟨rfl, e2, e3⟩
    | 14, ⟨_, e2, e3⟩ => exact Or.inr (Or.inl ⟨rfl, e2, e3⟩)
    | 15, ⟨_, e2, e3⟩ => exact Or.inr (Or.inr ⟨rfl, e2, e3⟩)
  refine RX_obj (o := nO σ) hI hR hk k00 hL had (fun a b c d h n0 n3 hn => fO a b c d h n0 n3) (fun u hu q1 q2 => ⟨by omega, by rw [h6, if_neg hu] at q2; exact q2⟩) (fun u hu => ⟨by rw [h7, if_neg hu], by rw [h8, if_neg hu], by rw [h9, if_neg hu]⟩) (fun u v k hu hv hk3 => by rw [h10, if_neg (by unfold cel; omega)]) (fun _ a c d h h13 => ?_) (fun _ a c d a2 c2 d2 h h2 h13 h13b e => ?_) ?_ ?_ (fun _ _ => ⟨?_, ?_, fun v hv => ?_⟩)
  · rcases shp a c d h h13 with ⟨rfl, rfl, rfl⟩ | ⟨rfl, rfl, rfl⟩ | ⟨rfl, hc, rfl⟩
    · rw [a13]; exact ⟨hq, hfq.1⟩
    · rw [a14]; exact ⟨hq2.2.1, hq2.1⟩
    · rw [a15]; exact ⟨(hrr c hc).2.2.1, (hrr c hc).2.1⟩
  · rcases shp a c d h h13 with ⟨rfl, rfl, rfl⟩ | ⟨rfl, rfl, rfl⟩ | ⟨rfl, hc, rfl⟩ <;> rcases shp a2 c2 d2 h2 h13b with ⟨rfl, rfl, rfl⟩ | ⟨rfl, rfl, rfl⟩ | ⟨rfl, hc2, rfl⟩ <;> simp only [a13, a14, a15] at e
    all_goals first
      | exact ⟨rfl, rfl, rfl⟩
      | exact ⟨rfl, hij _ _ hc hc2 e, rfl⟩
      | (exfalso
         have e2 := congrArg F1 e
         first | rw [hfq.2] at e2 | rw [hq2.2.2] at e2 | rw [(hrr _ hc).2.2.2] at e2
         first | rw [hfq.2] at e2 | rw [hq2.2.2] at e2 | rw [(hrr _ hc).2.2.2] at e2 | rw [(hrr _ hc2).2.2.2] at e2
         exact absurd e2 (by simp))
  · rw [had 0 0 0 0 l0, ← hf2, va_up_s]
    show _ = _
    rw [eC, eO, had 1 0 0 0 ⟨rfl, rfl, rfl⟩, had 2 0 0 0 ⟨rfl, rfl, rfl⟩, had 3 0 0 0 ⟨rfl, rfl, rfl⟩]
  · rw [had 3 0 0 0 l3, ← hf2, va_up_n _ _ (rx_ne hR l3 l0 (by omega)), va_up_s]
    refine ⟨_, rfl, fun u hu => ?_⟩
    rw [eO] at hu
    by_cases e : u = nO σ
    · rw [e, h6, if_pos rfl, va_up_s, a13]
      exact ⟨fun _ => rfl, fun n => absurd rfl n⟩
    · rw [h6, if_neg e, va_up_n _ _ e]
      exact ⟨fun hx => by rw [had 13 u 0 0 ⟨⟨by omega, hx⟩, rfl, rfl⟩]; exact (he3 u (by omega)).1 hx, (he3 u (by omega)).2⟩
  · rw [a13, fN q hq, hfq.2]
    show _ = _
    have e7 : oC σ2 (nO σ) = fC σ F := by unfold oC; rw [h7, if_pos rfl]; exact cC
    have e8 : oV σ2 (nO σ) = fV σ F := by unfold oV; rw [h8, if_pos rfl]; exact cV
    have e9 : oF σ2 (nO σ) = fV σ F := by unfold oF; rw [h9, if_pos rfl]; exact cV
    rw [e7, e8, e9, a14, had 4 _ 0 0 ⟨f2, rfl, rfl⟩]
  · rw [a14, fN q2 hq2.2.1, hq2.2.2]
    exact ⟨_, rfl, fun v hv => by rw [a15]; exact (hrr v hv).1⟩
  · rw [a15, fN _ (hrr v hv).2.2.1, (hrr v hv).2.2.2]
    refine ⟨_, rfl, fun r1 r2 k hk3 => ?_⟩
    have e8 : oV σ2 (nO σ) = fV σ F := by unfold oV; rw [h8, if_pos rfl]; exact cV
    have e9 : oF σ2 (nO σ) = fV σ F := by unfold oF; rw [h9, if_pos rfl]; exact cV
    rw [e8] at r2
    rw [e9] at r1
    rw [h10, if_pos (by unfold cel; omega)]
end XD12
set_option maxRecDepth 100000 in
set_option maxHeartbeats 4000000 in
theorem c_X6_create (l : Launch) (G : hG) (L : List Nat) (f : Nat → va_E) (ad : xAd) (σ : Sg) (thread : Int32) (hI : Inv σ) (hR : RX G L f ad σ) (hFr : Fr σ) : hMi l G yX6_create wsX6_create ({ frames := 2, cells := 10, slots := 76, locals := 42 } : Room) (va_pl L f) [.ref (ad 0 0 0 0), .int (thread)] (fun r w => r = (M_create σ thread).1 ∧ XPo G (ad 0 0 0 0) (M_create σ thread).2 w) := by
  refine hMi.of (cc := cX6_create) (maxL := 5) (some .int) RX6 rfl (by decide +kernel) rfl (Nat.le_of_ble_eq_true rfl) ?_
  intro p e s m args below meth c S hr hlk X ls hl
  have hx := S.1
  have hb := S.2.1
  have hown := S.2.2.2.1
  have hts := S.2.2.2.2
  have hl : lv_has ls 5 [(0, .ref (ad 0 0 0 0)), (1, .int (thread))] := hl
  have hin0 : ∀ w ∈ wsX00, w ∈ wsX6_create := by decide +kernel
  have hin3 : ∀ w ∈ wsX30, w ∈ wsX6_create := by decide +kernel
  have hin5 : ∀ w ∈ wsX50, w ∈ wsX6_create := by decide +kernel
  have hin6 : ∀ w ∈ wsX60, w ∈ wsX6_create := by decide +kernel
  have hC6 : nC σ ≤ 6 := hI.1.2
  have hO24 : nO σ ≤ 24 := hI.2.1.2
  obtain ⟨m0, f0⟩ := rx0 hR
  obtain ⟨g1, m1, f1, e1⟩ := rx1 hR
  obtain ⟨g2, m2, f2, e2⟩ := rx2 hR
  obtain ⟨g3, m3, f3, e3⟩ := rx3 hR
  refine lv_aload_n hx hb dX6_create_0 rfl (lv_at hl 0 rfl) ?_
  refine lv_iload_n hx hb dX6_create_1 rfl (lv_at hl 1 rfl) ?_
  refine hx_Vq (rest := []) S X (c_X6_stackOf l G L f ad σ (thread) hI hR) gX6_create_X6_stackOf rfl (n := 1) (by decide +kernel) rfl ⟨(Nat.le_of_ble_eq_true rfl), (Nat.le_of_ble_eq_true rfl)⟩ (xp_recv (ci := 6) X rfl m0 f0) hl.1 rfl (Nat.le_of_ble_eq_true rfl) dX6_create_2 ⟨(Nat.le_of_ble_eq_true rfl), (Nat.le_of_ble_eq_true rfl)⟩ (fun r wd1 H locs hp X => ?_)
  obtain ⟨hr2, hs2, rfl⟩ := hp
  by_cases hT : isT (thread)
  · skip
    have hT' := hT
    obtain ⟨th, hth, rfl⟩ := hT
    have hcth : (nI th).toNatClampNeg = th := nI_clamp (by omega)
    obtain ⟨hd0, hd8⟩ := hI.2.2.2.1 th hth
    obtain ⟨hm10, hf10⟩ := rx10 hR hth
    obtain ⟨g11, hm11, hf11, he11⟩ := rx11 hR hth
    refine hx_eq (show r = some (ad 10 th 0 0) from hr2 th hth rfl) ?_
    refine lv_astore_n (lv' := [(2, .ref (ad 10 th 0 0)), (0, .ref (ad 0 0 0 0)), (1, .int (nI (th)))]) hx hb dX6_create_5 rfl hl (by decide) rfl (fun ls hl => ?_)
    refine lv_aload_n hx hb dX6_create_6 rfl (lv_at hl 0 rfl) ?_
    refine lv_ifnonnull (tgt := 13) hx hb dX6_create_7 (by decide) ?_
    refine lv_aload_n hx hb dX6_create_13 rfl (lv_at hl 0 rfl) ?_
    refine hx_Vq (rest := []) S X (c_X0_top l G L f (ad 10 th 0 0) (ad 11 th 0 0) (dN σ th) g11 hm10 hf10 hm11 hf11 hd8) gX6_create_X0_top rfl (n := 0) (by decide +kernel) rfl ⟨(Nat.le_of_ble_eq_true rfl), (Nat.le_of_ble_eq_true rfl)⟩ (xp_recv (ci := 0) X rfl hm10 hf10) hl.1 rfl (Nat.le_of_ble_eq_true rfl) dX6_create_14 ⟨(Nat.le_of_ble_eq_true rfl), (Nat.le_of_ble_eq_true rfl)⟩ (fun r wd1 H locs hp X => ?_)
    obtain ⟨hs14, hr14, rfl⟩ := hp
    by_cases hK : ¬ dN σ th = 0
    · skip
      have hk : dN σ th - 1 < dN σ th := by omega
      have hlv : liv σ (topF σ th) := topF_liv hK hd8
      have hfr : topF σ th < 32 := topF_lt hth hd8
      obtain ⟨⟨j1, j2⟩, ⟨j3, j4⟩, j5⟩ := hI.2.2.2.2.1 (topF σ th) hfr hlv
      have jk8 : cnt σ (fC σ (topF σ th)) ≤ 8 := (hI.2.2.1 _ j2).1.2.2
      have hm12 := (rx12 hR hth hk).1
      have hf12 : f (ad 12 th (dN σ th - 1) 0) = .inr (3, [.ref (ad 4 (fC σ (topF σ th)) 0 0), .int (nI (fV σ (topF σ th))), .int (σ 5 (topF σ th))]) := (rx12 hR hth hk).2
      obtain ⟨hmf4, hff4⟩ := rx4 hR j2
      obtain ⟨gff, hmf5, hff5, hef5⟩ := rx5 hR j2
      refine hx_eq (show r = some (ad 12 th (dN σ th - 1) 0) from (hr14 (by omega)).trans (he11 _ (by omega))) ?_
      refine lv_astore_n (lv' := [(3, .ref (ad 12 th (dN σ th - 1) 0)), (2, .ref (ad 10 th 0 0)), (0, .ref (ad 0 0 0 0)), (1, .int (nI (th)))]) hx hb dX6_create_17 rfl hl (by decide) rfl (fun ls hl => ?_)
      refine lv_aload_n hx hb dX6_create_18 rfl (lv_at hl 0 rfl) ?_
      refine lv_ifnonnull (tgt := 25) hx hb dX6_create_19 (by decide) ?_
      refine lv_aload_n hx hb dX6_create_25 rfl (lv_at hl 2 rfl) ?_
      refine xp_get S X (ci := 6) m0 f0 rfl hin6 4 (by decide) (by decide +kernel) rfl dX6_create_26 ?_
      refine lv_bipush (v := 24) hx hb dX6_create_29 (by decide) ?_
      refine lv_icmp_lt (tgt := 37) hx hb dX6_create_31 (by decide) (fun c31 => ?_) (fun c31 => ?_)
      · skip
        have c31 := (nI_ltI (a := nO σ) (b := 24) (by omega) (by omega)).mp c31
        refine lv_aload_n hx hb dX6_create_37 rfl (lv_at hl 2 rfl) ?_
        refine xp_get S X (ci := 6) m0 f0 rfl hin6 4 (by decide) (by decide +kernel) rfl dX6_create_38 ?_
        refine lv_istore (lv' := [(4, .int (nI (nO σ))), (3, .ref (ad 12 th (dN σ th - 1) 0)), (2, .ref (ad 10 th 0 0)), (0, .ref (ad 0 0 0 0)), (1, .int (nI (th)))]) hx hb dX6_create_41 hl (by decide) rfl (fun ls hl => ?_)
        refine lv_aload_n hx hb dX6_create_43 rfl (lv_at hl 3 rfl) ?_
        refine xp_get S X (ci := 6) m0 f0 rfl hin6 3 (by decide) (by decide +kernel) rfl dX6_create_44 ?_
        refine lv_iload hx hb dX6_create_47 (lv_at hl 0 rfl) ?_
        refine xp_new S X (ci := 5) (fs := [.null, .int ((0 : Int32)), .int ((0 : Int32)), .null]) tyX5_ok rfl hin5 (by decide +kernel) (by decide +kernel) (by decide +kernel) (fun j hj => by rcases (show j = 0 ∨ j = 1 ∨ j = 2 ∨ j = 3 by omega) with rfl | rfl | rfl | rfl <;> rfl) (Nat.le_of_ble_eq_true rfl) (Nat.le_of_ble_eq_true rfl) dX6_create_49 (fun q1 H hq1 X => ?_)
        have k2 : (va_up f (q1) (.inr (5, [.null, .int ((0 : Int32)), .int ((0 : Int32)), .null]))) (ad 0 0 0 0) = .inr (6, [.ref (ad 1 0 0 0), .int (nI (nC σ)), .ref (ad 2 0 0 0), .ref (ad 3 0 0 0), .int (nI (nO σ))]) := up_n f0 (fun q => hq1 (q ▸ m0))
        have k3 : (va_up f (q1) (.inr (5, [.null, .int ((0 : Int32)), .int ((0 : Int32)), .null]))) (ad 1 0 0 0) = hAQ G 3 6 (g1) := up_n f1 (fun q => hq1 (q ▸ m1))
        have k4 : (va_up f (q1) (.inr (5, [.null, .int ((0 : Int32)), .int ((0 : Int32)), .null]))) (ad 2 0 0 0) = hAQ G 2 4 (g2) := up_n f2 (fun q => hq1 (q ▸ m2))
        have k5 : (va_up f (q1) (.inr (5, [.null, .int ((0 : Int32)), .int ((0 : Int32)), .null]))) (ad 3 0 0 0) = hAQ G 7 24 (g3) := up_n f3 (fun q => hq1 (q ▸ m3))
        have k6 : (va_up f (q1) (.inr (5, [.null, .int ((0 : Int32)), .int ((0 : Int32)), .null]))) (ad 10 th 0 0) = .inr (0, [.ref (ad 11 th 0 0), .int (nI (dN σ th))]) := up_n hf10 (fun q => hq1 (q ▸ hm10))
        have k7 : (va_up f (q1) (.inr (5, [.null, .int ((0 : Int32)), .int ((0 : Int32)), .null]))) (ad 11 th 0 0) = hAQ G 5 8 (g11) := up_n hf11 (fun q => hq1 (q ▸ hm11))
        have k8 : (va_up f (q1) (.inr (5, [.null, .int ((0 : Int32)), .int ((0 : Int32)), .null]))) (ad 12 th (dN σ th - 1) 0) = .inr (3, [.ref (ad 4 (fC σ (topF σ th)) 0 0), .int (nI (fV σ (topF σ th))), .int (σ 5 (topF σ th))]) := up_n hf12 (fun q => hq1 (q ▸ hm12))
        have k9 : (va_up f (q1) (.inr (5, [.null, .int ((0 : Int32)), .int ((0 : Int32)), .null]))) (ad 4 (fC σ (topF σ th)) 0 0) = .inr (1, [.int (nI (fC σ (topF σ th))), .ref (ad 5 (fC σ (topF σ th)) 0 0), .ref (ad 6 (fC σ (topF σ th)) 0 0), .int (nI (cnt σ (fC σ (topF σ th)) - 1)), .int (σ 1 (162 * fC σ (topF σ th) + 1))]) := up_n hff4 (fun q => hq1 (q ▸ hmf4))
        have k10 : (va_up f (q1) (.inr (5, [.null, .int ((0 : Int32)), .int ((0 : Int32)), .null]))) (ad 5 (fC σ (topF σ th)) 0 0) = hAI G 8 (gff) := up_n hff5 (fun q => hq1 (q ▸ hmf5))
        have k11 : (va_up f (q1) (.inr (5, [.null, .int ((0 : Int32)), .int ((0 : Int32)), .null]))) (q1) = .inr (5, [.null, .int ((0 : Int32)), .int ((0 : Int32)), .null]) := va_up_s _ _ _
        refine lv_dup hx hb dX6_create_52 rfl ?_
        refine lv_aload_n hx hb dX6_create_53 rfl (lv_at hl 1 rfl) ?_
        refine xp_getN (host := RX6) S X (ci := 3) (List.mem_append_left _ hm12) k8 rfl hin3 0 (by decide) (by decide +kernel) rfl dX6_create_54 ?_
        refine lv_aload_n hx hb dX6_create_57 rfl (lv_at hl 1 rfl) ?_
        refine xp_getN (host := RX6) S X (ci := 3) (List.mem_append_left _ hm12) k8 rfl hin3 1 (by decide) (by decide +kernel) rfl dX6_create_58 ?_
        refine hx_Iv (rest := [.ref (q1), .int (nI (nO σ)), .ref (ad 3 0 0 0)]) S X (c_X5_init l G (L ++ [q1]) (va_up f (q1) (.inr (5, [.null, .int ((0 : Int32)), .int ((0 : Int32)), .null]))) (q1) (ad 4 (fC σ (topF σ th)) 0 0) (nI (fV σ (topF σ th))) (List.mem_append_right _ (List.mem_singleton.mpr rfl)) k11) gX6_create_X5_init rfl (by decide +kernel) (by decide +kernel) (by decide +kernel) rfl (n := 2) (by decide +kernel) rfl ⟨(Nat.le_of_ble_eq_true rfl), (Nat.le_of_ble_eq_true rfl)⟩ hl.1 rfl (Nat.le_of_ble_eq_true rfl) dX6_create_61 ⟨(Nat.le_of_ble_eq_true rfl), (Nat.le_of_ble_eq_true rfl)⟩ (fun wd1 H locs hp X => ?_)
        obtain ⟨L1, F1, q2, rr, gq, rfl, hLL, hff, hfq, hq2, hrr, hij⟩ := ob_facts hq1 hp
        refine xp_ast S X 7 (r := (RX5, TX5, 4)) rfl (hLL _ m3) ((hff _ m3).trans f3) hfq.1 hfq.2 rfl (j := nO σ) (by omega) (by decide) dX6_create_64 (fun H locs X => ?_)
        have k12 : (va_up F1 (ad 3 0 0 0) (hAQ G 7 24 (va_up (g3) (nO σ) (some (q1))))) (ad 0 0 0 0) = .inr (6, [.ref (ad 1 0 0 0), .int (nI (nC σ)), .ref (ad 2 0 0 0), .ref (ad 3 0 0 0), .int (nI (nO σ))]) := up_k ((hff _ m3).trans f3) ((hff _ m0).trans f0) (by simp)
        have k13 : (va_up F1 (ad 3 0 0 0) (hAQ G 7 24 (va_up (g3) (nO σ) (some (q1))))) (ad 12 th (dN σ th - 1) 0) = .inr (3, [.ref (ad 4 (fC σ (topF σ th)) 0 0), .int (nI (fV σ (topF σ th))), .int (σ 5 (topF σ th))]) := up_k ((hff _ m3).trans f3) ((hff _ hm12).trans hf12) (by simp)
        have k14 : (va_up F1 (ad 3 0 0 0) (hAQ G 7 24 (va_up (g3) (nO σ) (some (q1))))) (q1) = .inr (5, [.ref (ad 4 (fC σ (topF σ th)) 0 0), .int (nI (fV σ (topF σ th))), .int (nI (fV σ (topF σ th))), .ref (q2)]) := up_k ((hff _ m3).trans f3) hfq.2 (by simp)
        have k15 : (va_up F1 (ad 3 0 0 0) (hAQ G 7 24 (va_up (g3) (nO σ) (some (q1))))) (ad 3 0 0 0) = hAQ G 7 24 (va_up (g3) (nO σ) (some (q1))) := va_up_s _ _ _
        refine lv_aload_n hx hb dX6_create_65 rfl (lv_at hl 3 rfl) ?_
        refine lv_dup hx hb dX6_create_66 rfl ?_
        refine xp_get S X (ci := 6) (hLL _ m0) k12 rfl hin6 4 (by decide) (by decide +kernel) rfl dX6_create_67 ?_
        refine lv_iconst (v := 1) hx hb dX6_create_70 (by decide) ?_
        refine lv_iadd hx hb dX6_create_71 ?_
        refine hx_ei (show _ = nI (nO σ + 1) from nI_add (nO σ) (1)) ?_
        refine xp_put S X (ci := 6) (fs2 := [.ref (ad 1 0 0 0), .int (nI (nC σ)), .ref (ad 2 0 0 0), .ref (ad 3 0 0 0), .int (nI (nO σ + 1))]) tyX6_ok nmX6 (hLL _ m0) k12 rfl hin6 4 (by decide) (by decide +kernel) rfl rfl rfl (Nat.le_of_ble_eq_true rfl) rfl dX6_create_72 (fun H locs X => ?_)
        have k16 : (va_up (va_up F1 (ad 3 0 0 0) (hAQ G 7 24 (va_up (g3) (nO σ) (some (q1))))) (ad 0 0 0 0) (.inr (6, [.ref (ad 1 0 0 0), .int (nI (nC σ)), .ref (ad 2 0 0 0), .ref (ad 3 0 0 0), .int (nI (nO σ + 1))]))) (ad 12 th (dN σ th - 1) 0) = .inr (3, [.ref (ad 4 (fC σ (topF σ th)) 0 0), .int (nI (fV σ (topF σ th))), .int (σ 5 (topF σ th))]) := up_k k12 k13 (by simp)
        have k17 : (va_up (va_up F1 (ad 3 0 0 0) (hAQ G 7 24 (va_up (g3) (nO σ) (some (q1))))) (ad 0 0 0 0) (.inr (6, [.ref (ad 1 0 0 0), .int (nI (nC σ)), .ref (ad 2 0 0 0), .ref (ad 3 0 0 0), .int (nI (nO σ + 1))]))) (q1) = .inr (5, [.ref (ad 4 (fC σ (topF σ th)) 0 0), .int (nI (fV σ (topF σ th))), .int (nI (fV σ (topF σ th))), .ref (q2)]) := up_k k12 k14 (by simp)
        have k18 : (va_up (va_up F1 (ad 3 0 0 0) (hAQ G 7 24 (va_up (g3) (nO σ) (some (q1))))) (ad 0 0 0 0) (.inr (6, [.ref (ad 1 0 0 0), .int (nI (nC σ)), .ref (ad 2 0 0 0), .ref (ad 3 0 0 0), .int (nI (nO σ + 1))]))) (ad 3 0 0 0) = hAQ G 7 24 (va_up (g3) (nO σ) (some (q1))) := up_k k12 k15 (by simp)
        have k19 : (va_up (va_up F1 (ad 3 0 0 0) (hAQ G 7 24 (va_up (g3) (nO σ) (some (q1))))) (ad 0 0 0 0) (.inr (6, [.ref (ad 1 0 0 0), .int (nI (nC σ)), .ref (ad 2 0 0 0), .ref (ad 3 0 0 0), .int (nI (nO σ + 1))]))) (ad 0 0 0 0) = .inr (6, [.ref (ad 1 0 0 0), .int (nI (nC σ)), .ref (ad 2 0 0 0), .ref (ad 3 0 0 0), .int (nI (nO σ + 1))]) := va_up_s _ _ _
        refine lv_aload_n hx hb dX6_create_75 rfl (lv_at hl 1 rfl) ?_
        refine lv_iload hx hb dX6_create_76 (lv_at hl 0 rfl) ?_
        refine hx_Vv (rest := []) S X (c_X3_pin l G L1 (va_up (va_up F1 (ad 3 0 0 0) (hAQ G 7 24 (va_up (g3) (nO σ) (some (q1))))) (ad 0 0 0 0) (.inr (6, [.ref (ad 1 0 0 0), .int (nI (nC σ)), .ref (ad 2 0 0 0), .ref (ad 3 0 0 0), .int (nI (nO σ + 1))]))) (ad 12 th (dN σ th - 1) 0) (ad 4 (fC σ (topF σ th)) 0 0) (nI (fV σ (topF σ th))) (σ 5 (topF σ th)) (nI (nO σ)) (hLL _ hm12) k16) gX6_create_X3_pin rfl (n := 1) (by decide +kernel) rfl ⟨(Nat.le_of_ble_eq_true rfl), (Nat.le_of_ble_eq_true rfl)⟩ (xp_recv (ci := 3) X rfl (hLL _ hm12) k16) hl.1 rfl (Nat.le_of_ble_eq_true rfl) dX6_create_78 ⟨(Nat.le_of_ble_eq_true rfl), (Nat.le_of_ble_eq_true rfl)⟩ (fun wd1 H locs hp X => ?_)
        obtain rfl := hp
        have k20 : (va_up (va_up (va_up F1 (ad 3 0 0 0) (hAQ G 7 24 (va_up (g3) (nO σ) (some (q1))))) (ad 0 0 0 0) (.inr (6, [.ref (ad 1 0 0 0), .int (nI (nC σ)), .ref (ad 2 0 0 0), .ref (ad 3 0 0 0), .int (nI (nO σ + 1))]))) (ad 12 th (dN σ th - 1) 0) (.inr (3, [.ref (ad 4 (fC σ (topF σ th)) 0 0), .int (nI (fV σ (topF σ th))), .int ((σ 5 (topF σ th)) ||| (1 : Int32) <<< ((nI (nO σ)) &&& 31))]))) (q1) = .inr (5, [.ref (ad 4 (fC σ (topF σ th)) 0 0), .int (nI (fV σ (topF σ th))), .int (nI (fV σ (topF σ th))), .ref (q2)]) := up_k k16 k17 (by simp)
        have k21 : (va_up (va_up (va_up F1 (ad 3 0 0 0) (hAQ G 7 24 (va_up (g3) (nO σ) (some (q1))))) (ad 0 0 0 0) (.inr (6, [.ref (ad 1 0 0 0), .int (nI (nC σ)), .ref (ad 2 0 0 0), .ref (ad 3 0 0 0), .int (nI (nO σ + 1))]))) (ad 12 th (dN σ th - 1) 0) (.inr (3, [.ref (ad 4 (fC σ (topF σ th)) 0 0), .int (nI (fV σ (topF σ th))), .int ((σ 5 (topF σ th)) ||| (1 : Int32) <<< ((nI (nO σ)) &&& 31))]))) (ad 3 0 0 0) = hAQ G 7 24 (va_up (g3) (nO σ) (some (q1))) := up_k k16 k18 (by simp)
        have k22 : (va_up (va_up (va_up F1 (ad 3 0 0 0) (hAQ G 7 24 (va_up (g3) (nO σ) (some (q1))))) (ad 0 0 0 0) (.inr (6, [.ref (ad 1 0 0 0), .int (nI (nC σ)), .ref (ad 2 0 0 0), .ref (ad 3 0 0 0), .int (nI (nO σ + 1))]))) (ad 12 th (dN σ th - 1) 0) (.inr (3, [.ref (ad 4 (fC σ (topF σ th)) 0 0), .int (nI (fV σ (topF σ th))), .int ((σ 5 (topF σ th)) ||| (1 : Int32) <<< ((nI (nO σ)) &&& 31))]))) (ad 0 0 0 0) = .inr (6, [.ref (ad 1 0 0 0), .int (nI (nC σ)), .ref (ad 2 0 0 0), .ref (ad 3 0 0 0), .int (nI (nO σ + 1))]) := up_k k16 k19 (by simp)
        have k23 : (va_up (va_up (va_up F1 (ad 3 0 0 0) (hAQ G 7 24 (va_up (g3) (nO σ) (some (q1))))) (ad 0 0 0 0) (.inr (6, [.ref (ad 1 0 0 0), .int (nI (nC σ)), .ref (ad 2 0 0 0), .ref (ad 3 0 0 0), .int (nI (nO σ + 1))]))) (ad 12 th (dN σ th - 1) 0) (.inr (3, [.ref (ad 4 (fC σ (topF σ th)) 0 0), .int (nI (fV σ (topF σ th))), .int ((σ 5 (topF σ th)) ||| (1 : Int32) <<< ((nI (nO σ)) &&& 31))]))) (ad 12 th (dN σ th - 1) 0) = .inr (3, [.ref (ad 4 (fC σ (topF σ th)) 0 0), .int (nI (fV σ (topF σ th))), .int ((σ 5 (topF σ th)) ||| (1 : Int32) <<< ((nI (nO σ)) &&& 31))]) := va_up_s _ _ _
        refine lv_iload hx hb dX6_create_81 (lv_at hl 0 rfl) ?_
        have hP := crP_of σ (topF σ th) (nO σ)
        have hRX := rx_create hI hR hfr hlv c31 hP (g3 := g3) hq1 hLL hff hfq hq2 hrr hij e3
        have hIc := (iv_cr ⟨hI, hFr⟩ hfr hlv c31 hP).1
        have hM : M_create σ (nI th) = (nI (nO σ), mS (crL σ (topF σ th) (nO σ) 8) 5 (topF σ th) (σ 5 (topF σ th) ||| (1 : Int32) <<< (nI (nO σ) &&& 31))) := by rw [M_create, wif_t hT', show cN (nI th) = th from hcth, wif_f hK, wif_f (by omega)]
        generalize crL σ (topF σ th) (nO σ) 8 = u at *
        obtain ⟨hku, _⟩ := hP
        have hDu : dN u th = dN σ th := by unfold dN; rw [hku 2 (by decide) (by decide)]
        have hPin := rx_pin hIc hRX hth (k := dN σ th - 1) (by omega) (σ 5 (topF σ th) ||| (1 : Int32) <<< (nI (nO σ) &&& 31))
        have ea1 : fC u (8 * th + (dN σ th - 1)) = fC σ (topF σ th) := by unfold fC; rw [hku 3 (by decide) (by decide)]; rfl
        have ea2 : fV u (8 * th + (dN σ th - 1)) = fV σ (topF σ th) := by unfold fV; rw [hku 4 (by decide) (by decide)]; rfl
        rw [ea1, ea2] at hPin
        rw [show (if th = nO σ ∧ 13 ≤ 12 ∧ 12 ≤ 15 then (if 12 = 13 then q1 else if 12 = 14 then q2 else rr (dN σ th - 1)) else ad 12 th (dN σ th - 1) 0) = ad 12 th (dN σ th - 1) 0 from if_neg (by omega), show (if fC σ (topF σ th) = nO σ ∧ 13 ≤ 4 ∧ 4 ≤ 15 then (if 4 = 13 then q1 else if 4 = 14 then q2 else rr 0) else ad 4 (fC σ (topF σ th)) 0 0) = ad 4 (fC σ (topF σ th)) 0 0 from if_neg (by omega)] at hPin
        exact hx_iret S X hr hlk (Nat.le_of_ble_eq_true rfl) (Nat.le_of_ble_eq_true rfl) ⟨by rw [hM], by rw [hM]; exact ⟨_, _, _, rfl, hPin, if_neg (by omega)⟩⟩ dX6_create_83
      · skip
        have c31 := (not_congr (nI_ltI (a := nO σ) (b := 24) (by omega) (by omega))).mp c31
        have hfull : nO σ = 24 := by omega
        refine lv_ldc (v := -2000010) hx hb hown (hts (Cond.constant RX6 33 (-2000010)) (by decide +kernel)) dX6_create_34 ?_
        exact hx_iret S X hr hlk (Nat.le_of_ble_eq_true rfl) (Nat.le_of_ble_eq_true rfl) ⟨by simp [M_create, wif_t, wif_f, hT', hcth, hK, j1, j3, c31, hfull], by simp [M_create, wif_t, wif_f, hT', hcth, hK, j1, j3, c31, hfull]; exact ⟨L, f, ad, rfl, hR, rfl⟩⟩ dX6_create_36
    · skip
      have hK0 : dN σ th = 0 := Classical.not_not.mp hK
      refine hx_eq (show r = none from hs14 hK0) ?_
      refine lv_astore_nN (lv' := [(3, .null), (2, .ref (ad 10 th 0 0)), (0, .ref (ad 0 0 0 0)), (1, .int (nI (th)))]) hx hb dX6_create_17 rfl hl (by decide) rfl (fun ls hl => ?_)
      refine lv_aload_nN hx hb dX6_create_18 rfl (lv_at hl 0 rfl) ?_
      refine lv_ifnonnullN hx hb dX6_create_19 ?_
      refine lv_ldc (v := -2000006) hx hb hown (hts (Cond.constant RX6 119 (-2000006)) (by decide +kernel)) dX6_create_22 ?_
      exact hx_iret S X hr hlk (Nat.le_of_ble_eq_true rfl) (Nat.le_of_ble_eq_true rfl) ⟨by simp [M_create, wif_t, wif_f, hT', hcth, hK0], by simp [M_create, wif_t, wif_f, hT', hcth, hK0]; exact ⟨L, f, ad, rfl, hR, rfl⟩⟩ dX6_create_24
  · skip
    refine hx_eq (show r = none from hs2 hT) ?_
    refine lv_astore_nN (lv' := [(2, .null), (0, .ref (ad 0 0 0 0)), (1, .int (thread))]) hx hb dX6_create_5 rfl hl (by decide) rfl (fun ls hl => ?_)
    refine lv_aload_nN hx hb dX6_create_6 rfl (lv_at hl 0 rfl) ?_
    refine lv_ifnonnullN hx hb dX6_create_7 ?_
    refine lv_ldc (v := -2000003) hx hb hown (hts (Cond.constant RX6 104 (-2000003)) (by decide +kernel)) dX6_create_10 ?_
    exact hx_iret S X hr hlk (Nat.le_of_ble_eq_true rfl) (Nat.le_of_ble_eq_true rfl) ⟨by simp [M_create, wif_t, wif_f, hT], by simp [M_create, wif_t, wif_f, hT]; exact ⟨L, f, ad, rfl, hR, rfl⟩⟩ dX6_create_12
