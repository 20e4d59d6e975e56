/-! counts and least versions: over the stacks, over the 32 places -/
theorem cnp_cong {p q : Nat → Prop} {n : Nat} (h : ∀ k, k < n → (p k ↔ q k)) : cnp p n = cnp q n := by
  induction n with
  | zero => rfl
  | succ n ih =>
    have h1 := ih (fun k hk => h k (by omega))
    by_cases c : p n
    · rw [cnp_t c, cnp_t ((h n (by omega)).mp c), h1]
    · rw [cnp_f c, cnp_f (fun z => c ((h n (by omega)).mpr z)), h1]
theorem cnp_add (p : Nat → Prop) (a b : Nat) : cnp p (a + b) = cnp p a + cnp (fun k => p (a + k)) b := by
  induction b with
  | zero => rfl
  | succ b ih =>
    rw [← Nat.add_assoc]
    by_cases c : p (a + b)
    · rw [cnp_t c, cnp_t (p := fun k => p (a + k)) c, ih, Nat.add_assoc]
    · rw [cnp_f c, cnp_f (p := fun k => p (a + k)) c, ih]
theorem cnq_eq (p : Nat → Prop) (n : Nat) : cnq p n = cnp p n := by
  induction n with
  | zero => rfl
  | succ n ih => rw [cnq, cnp, ih]
theorem cnp_cut {p : Nat → Prop} {d n : Nat} (hd : d ≤ n) (h : ∀ k, d ≤ k → k < n → ¬ p k) : cnp p n = cnp p d := by
  induction n with
  | zero => rw [show d = 0 by omega]
  | succ n ih =>
    by_cases e : d = n + 1
    · rw [e]
    · rw [cnp_f (h n (by omega) (by omega)), ih (by omega) (fun k a b => h k a (by omega))]
theorem cnp_pos {p : Nat → Prop} {n : Nat} : 0 < cnp p n ↔ ∃ k, k < n ∧ p k := by
  induction n with
  | zero => exact ⟨fun h => absurd h (by simp [cnp]), fun ⟨k, hk, _⟩ => by omega⟩
  | succ n ih =>
    by_cases c : p n
    · rw [cnp_t c]
      exact ⟨fun _ => ⟨n, by omega, c⟩, fun _ => by omega⟩
    · rw [cnp_f c, ih]
      constructor
      · rintro ⟨k, hk, h⟩
        exact ⟨k, by omega, h⟩
      · rintro ⟨k, hk, h⟩
        by_cases e : k = n
        · subst e; exact absurd h c
        · exact ⟨k, by omega, h⟩
def frP (σ : Sg) (type lo up : Int32) (j : Nat) : Prop := nI (fC σ j) = type ∧ lo ≤ nI (fV σ j) ∧ nI (fV σ j) ≤ up
noncomputable def cfS (σ : Sg) (type lo up : Int32) : Nat → Nat
  | 0 => 0
  | t + 1 => cfS σ type lo up t + cnq (fun k => nI (fC σ (8 * t + k)) = type ∧ lo ≤ nI (fV σ (8 * t + k)) ∧ nI (fV σ (8 * t + k)) ≤ up) (dN σ t)
theorem cfS_cnp {σ : Sg} {type lo up : Int32} (hd : ∀ t, t < 4 → dN σ t ≤ 8) : ∀ T, T ≤ 4 → cfS σ type lo up T = cnp (fun j => liv σ j ∧ frP σ type lo up j) (8 * T)
  | 0, _ => rfl
  | T + 1, h => by
    rw [cfS, cfS_cnp hd T (by omega), show 8 * (T + 1) = 8 * T + 8 by omega, cnp_add, cnq_eq]
    congr 1
    have h8 := hd T (by omega)
    rw [cnp_cut (p := fun k => liv σ (8 * T + k) ∧ frP σ type lo up (8 * T + k)) (d := dN σ T) (n := 8) h8 (fun k a b q => by
      have := q.1
      unfold liv at this
      rw [show (8 * T + k) / 8 = T by omega, show (8 * T + k) % 8 = k by omega] at this
      omega)]
    exact cnp_cong (fun k hk => ⟨fun q => ⟨liv_at hk h8, q⟩, fun q => q.2⟩)
theorem cfS_le {σ : Sg} {type lo up : Int32} (hd : ∀ t, t < 4 → dN σ t ≤ 8) : ∀ T, T ≤ 4 → cfS σ type lo up T ≤ 8 * T
  | 0, _ => Nat.le_refl 0
  | T + 1, h => by
    have h1 := cfS_le (σ := σ) (type := type) (lo := lo) (up := up) hd T (by omega)
    have h2 := cnq_le (fun k => nI (fC σ (8 * T + k)) = type ∧ lo ≤ nI (fV σ (8 * T + k)) ∧ nI (fV σ (8 * T + k)) ≤ up) (dN σ T)
    have h3 := hd T (by omega)
    rw [cfS]
    omega
theorem hd8_of {σ : Sg} (hI : Inv σ) : ∀ t, t < 4 → dN σ t ≤ 8 := fun t ht => (hI.2.2.2.1 t ht).2
/-- frames that run a version: the count is positive where the reference finds one -/
theorem cfS_run {σ : Sg} (hI : Inv σ) {t v : Nat} (hv : v < 8) (ht : t < 6) : 0 < cfS σ (nI t) (nI v) (nI v) 4 ↔ ∃ j, j < 32 ∧ runP σ (nI t) (nI v) j := by
  rw [cfS_cnp (hd8_of hI) 4 (by omega), cnp_pos]
  constructor
  · rintro ⟨j, hj, hl, h1, h2, h3⟩
    obtain ⟨⟨a1, a2⟩, ⟨a3, a4⟩, -⟩ := hI.2.2.2.2.1 j hj hl
    have h6 := hI.1.2
    have k8 := (hI.2.2.1 _ a2).1.2.2
    have e2 := (nI_leI (by omega) (by omega)).mp h2
    have e3 := (nI_leI (by omega) (by omega)).mp h3
    exact ⟨j, hj, hl, by rw [a1]; exact h1, by rw [a3, show fV σ j = v by omega]⟩
  · rintro ⟨j, hj, hl, h1, h2⟩
    obtain ⟨⟨a1, a2⟩, ⟨a3, a4⟩, -⟩ := hI.2.2.2.2.1 j hj hl
    exact ⟨j, hj, hl, by rw [← a1]; exact h1, by rw [← a3, h2]; exact Int32.le_refl _, by rw [← a3, h2]; exact Int32.le_refl _⟩
theorem cfS_old {σ : Sg} (hI : Inv σ) {t : Nat} (ht : t < nC σ) : cfS σ (nI t) 0 (nI (cnt σ t - 1) - 1) 4 = cnp (oldP σ (nI t)) 32 := by
  have h6 := hI.1.2
  have hc := (hI.2.2.1 t ht).1
  rw [cfS_cnp (hd8_of hI) 4 (by omega)]
  refine cnp_cong (fun j hj => ?_)
  have hct : cN (nI t) = t := nI_clamp (by omega)
  unfold oldP frP
  rw [hct]
  constructor
  · rintro ⟨hl, h1, -, h3⟩
    obtain ⟨⟨a1, a2⟩, ⟨a3, a4⟩, -⟩ := hI.2.2.2.2.1 j hj hl
    refine ⟨hl, by rw [a1]; exact h1, fun q => ?_⟩
    rw [a3, show (1 : Int32) = nI 1 from rfl, pk_sub hc.2.1] at q
    rw [q, i_le] at h3
    have e1 : (nI (cnt σ t - 1)).toInt = (cnt σ t - 1 : Nat) := nI_toInt (by omega)
    have e2 : (nI (cnt σ t - 1) - 1).toInt = ((cnt σ t - 1 : Nat) : Int) - 1 := pk_sub_toInt (a := cnt σ t - 1) (b := 1) (by omega) (by omega)
    omega
  · rintro ⟨hl, h1, h2⟩
    obtain ⟨⟨a1, a2⟩, ⟨a3, a4⟩, -⟩ := hI.2.2.2.2.1 j hj hl
    rw [a1] at h1
    have hfc := (nI_eq (by omega) (by omega)).mp h1
    rw [hfc] at a4
    refine ⟨hl, h1, nI_pos' (by omega), ?_⟩
    rw [i_le]
    have e2 : (nI (cnt σ t - 1) - 1).toInt = ((cnt σ t - 1 : Nat) : Int) - 1 := pk_sub_toInt (a := cnt σ t - 1) (b := 1) (by omega) (by omega)
    have e3 : (nI (fV σ j)).toInt = (fV σ j : Nat) := nI_toInt (by omega)
    have h4 : fV σ j ≠ cnt σ t - 1 := fun q => h2 (by rw [a3, q, show (1 : Int32) = nI 1 from rfl, pk_sub hc.2.1])
    omega
/-! the least version -/
theorem mnF_min {p : Nat → Prop} {w : Nat → Nat} : ∀ n, (∀ k, k < n → w k < 8) → ∃ s, s ≤ 8 ∧ mnF p (fun k => nI (w k)) n = nI s ∧ (∀ k, k < n → p k → s ≤ w k) ∧ (s = 8 ∨ ∃ k, k < n ∧ p k ∧ w k = s)
  | 0, _ => ⟨8, by omega, rfl, fun k hk => by omega, Or.inl rfl⟩
  | n + 1, hw => by
    obtain ⟨s, h1, h2, h3, h4⟩ := mnF_min (p := p) (w := w) n (fun k hk => hw k (by omega))
    have hn := hw n (by omega)
    by_cases c : p n
    · by_cases d : w n < s
      · refine ⟨w n, by omega, ?_, fun k hk hp => ?_, Or.inr ⟨n, by omega, c, rfl⟩⟩
        · rw [mnF, wif_t c, h2]
          exact if_pos (nI_lt d (by omega))
        · by_cases e : k = n
          · rw [e]; omega
          · have := h3 k (by omega) hp; omega
      · refine ⟨s, h1, ?_, fun k hk hp => ?_, ?_⟩
        · rw [mnF, wif_t c, h2]
          exact if_neg (nI_nlt (by omega) (by omega))
        · by_cases e : k = n
          · rw [e]; omega
          · exact h3 k (by omega) hp
        · rcases h4 with h4 | ⟨k, a, b, d⟩
          · exact Or.inl h4
          · exact Or.inr ⟨k, by omega, b, d⟩
    · refine ⟨s, h1, ?_, fun k hk hp => ?_, ?_⟩
      · rw [mnF, wif_f c, h2]
      · by_cases e : k = n
        · rw [e] at hp; exact absurd hp c
        · exact h3 k (by omega) hp
      · rcases h4 with h4 | ⟨k, a, b, d⟩
        · exact Or.inl h4
        · exact Or.inr ⟨k, by omega, b, d⟩
noncomputable def spS (σ : Sg) (o : Int32) : Nat → Int32
  | 0 => 8
  | t + 1 => if mnF (fun k => pinB (σ 5 (8 * t + k)) o) (fun k => nI (fV σ (8 * t + k))) (dN σ t) < spS σ o t then mnF (fun k => pinB (σ 5 (8 * t + k)) o) (fun k => nI (fV σ (8 * t + k))) (dN σ t) else spS σ o t
theorem fV8 {σ : Sg} (hI : Inv σ) {j : Nat} (hj : j < 32) (hl : liv σ j) : fV σ j < 8 := by
  obtain ⟨⟨a1, a2⟩, ⟨a3, a4⟩, -⟩ := hI.2.2.2.2.1 j hj hl
  have k8 := (hI.2.2.1 _ a2).1.2.2
  omega
theorem spS_min {σ : Sg} (hI : Inv σ) (o : Int32) : ∀ T, T ≤ 4 → ∃ s, s ≤ 8 ∧ spS σ o T = nI s ∧ (∀ j, j < 8 * T → liv σ j → pinB (σ 5 j) o → s ≤ fV σ j) ∧ (s = 8 ∨ ∃ j, j < 8 * T ∧ liv σ j ∧ pinB (σ 5 j) o ∧ fV σ j = s)
  | 0, _ => ⟨8, by omega, rfl, fun j hj => by omega, Or.inl rfl⟩
  | T + 1, h => by
    obtain ⟨s, h1, h2, h3, h4⟩ := spS_min hI o T (by omega)
    have h8 := hd8_of hI T (by omega)
    obtain ⟨u, u1, u2, u3, u4⟩ := mnF_min (p := fun k => pinB (σ 5 (8 * T + k)) o) (w := fun k => fV σ (8 * T + k)) (dN σ T) (fun k hk => fV8 hI (by omega) (liv_at hk h8))
    have old : ∀ j, j < 8 * (T + 1) → liv σ j → j < 8 * T ∨ ∃ k, k < dN σ T ∧ j = 8 * T + k := fun j hj hl => by
      rcases Nat.lt_or_ge j (8 * T) with q | q
      · exact Or.inl q
      · refine Or.inr ⟨j - 8 * T, ?_, by omega⟩
        unfold liv at hl
        rw [show j / 8 = T by omega] at hl
        omega
    by_cases d : u < s
    · refine ⟨u, u1, ?_, fun j hj hl hp => ?_, Or.inr ?_⟩
      · rw [spS, h2, u2]
        exact if_pos (nI_lt d (by omega))
      · rcases old j hj hl with q | ⟨k, hk, rfl⟩
        · have := h3 j q hl hp; omega
        · exact u3 k hk hp
      · rcases u4 with u4 | ⟨k, a, b, c⟩
        · omega
        · exact ⟨8 * T + k, by omega, liv_at a h8, b, c⟩
    · refine ⟨s, h1, ?_, fun j hj hl hp => ?_, ?_⟩
      · rw [spS, h2, u2]
        exact if_neg (nI_nlt (by omega) (by omega))
      · rcases old j hj hl with q | ⟨k, hk, rfl⟩
        · exact h3 j q hl hp
        · have := u3 k hk hp; omega
      · rcases h4 with h4 | ⟨j, a, b, c, e⟩
        · exact Or.inl h4
        · exact Or.inr ⟨j, by omega, b, c, e⟩
theorem spS_hel {σ : Sg} (hI : Inv σ) (o : Int32) {v : Nat} (hv : v ≤ 8) : spS σ o 4 < nI v ↔ ∃ j, j < 32 ∧ helP σ o (nI v) j := by
  obtain ⟨s, h1, h2, h3, h4⟩ := spS_min hI o 4 (by omega)
  rw [h2, nI_ltI (by omega) (by omega)]
  constructor
  · intro h
    rcases h4 with h4 | ⟨j, a, b, c, e⟩
    · omega
    · obtain ⟨⟨a1, a2⟩, ⟨a3, a4⟩, -⟩ := hI.2.2.2.2.1 j a b
      exact ⟨j, a, b, c, by rw [a3]; exact nI_lt (by omega) (by omega)⟩
  · rintro ⟨j, hj, hl, hp, hlt⟩
    obtain ⟨⟨a1, a2⟩, ⟨a3, a4⟩, -⟩ := hI.2.2.2.2.1 j hj hl
    have h8 := fV8 hI hj hl
    rw [a3, nI_ltI (by omega) (by omega)] at hlt
    have := h3 j hj hl hp
    omega
theorem pbL_min {σ : Sg} (hI : Inv σ) (o : Int32) : ∀ n, n ≤ 32 → (pbL σ o n = -2000016 ∧ ∀ j, j < n → liv σ j → ¬ pinB (σ 5 j) o) ∨ (∃ s, s < 8 ∧ pbL σ o n = nI s ∧ (∀ j, j < n → liv σ j → pinB (σ 5 j) o → s ≤ fV σ j) ∧ ∃ j, j < n ∧ liv σ j ∧ pinB (σ 5 j) o ∧ fV σ j = s)
  | 0, _ => Or.inl ⟨rfl, fun j hj => by omega⟩
  | n + 1, hn => by
    by_cases c : liv σ n ∧ pinB (σ 5 n) o
    · obtain ⟨⟨a1, a2⟩, ⟨a3, a4⟩, -⟩ := hI.2.2.2.2.1 n (by omega) c.1
      have h8 := fV8 hI (by omega) c.1
      rcases pbL_min hI o n (by omega) with ⟨h1, h2⟩ | ⟨s, h1, h2, h3, h4⟩
      · refine Or.inr ⟨fV σ n, h8, ?_, fun j hj hl hp => ?_, n, by omega, c.1, c.2, rfl⟩
        · rw [pbL, wif_t ⟨c, Or.inl (by rw [h1]; decide)⟩, a3]
        · by_cases e : j = n
          · rw [e]; omega
          · exact absurd hp (h2 j (by omega) hl)
      · by_cases d : fV σ n < s
        · refine Or.inr ⟨fV σ n, h8, ?_, fun j hj hl hp => ?_, n, by omega, c.1, c.2, rfl⟩
          · rw [pbL, wif_t ⟨c, Or.inr (by rw [h2, a3]; exact nI_lt d (by omega))⟩, a3]
          · by_cases e : j = n
            · rw [e]; omega
            · have := h3 j (by omega) hl hp; omega
        · obtain ⟨j, b1, b2, b3, b4⟩ := h4
          refine Or.inr ⟨s, h1, ?_, fun j hj hl hp => ?_, j, by omega, b2, b3, b4⟩
          · rw [pbL, wif_f (fun q => q.2.elim (fun z => by rw [h2] at z; exact absurd z (nI_pos (by omega))) (fun z => by rw [h2, a3] at z; exact absurd z (nI_nlt (by omega) (by omega))))]
            exact h2
          · by_cases e : j = n
            · rw [e]; omega
            · exact h3 j (by omega) hl hp
    · have e0 : pbL σ o (n + 1) = pbL σ o n := by rw [pbL, wif_f (fun q => c q.1)]
      rw [e0]
      rcases pbL_min hI o n (by omega) with ⟨h1, h2⟩ | ⟨s, h1, h2, h3, j, b1, b2, b3, b4⟩
      · refine Or.inl ⟨h1, fun j hj hl hp => ?_⟩
        by_cases e : j = n
        · subst e; exact c ⟨hl, hp⟩
        · exact h2 j (by omega) hl hp
      · refine Or.inr ⟨s, h1, h2, fun j hj hl hp => ?_, j, by omega, b2, b3, b4⟩
        by_cases e : j = n
        · subst e; exact absurd ⟨hl, hp⟩ c
        · exact h3 j (by omega) hl hp
/-- the least version that pins, as both say it -/
theorem spS_pb {σ : Sg} (hI : Inv σ) (o : Int32) : (8 ≤ spS σ o 4 → pbL σ o 32 = -2000016) ∧ (¬ 8 ≤ spS σ o 4 → pbL σ o 32 = spS σ o 4) := by
  obtain ⟨s, h1, h2, h3, h4⟩ := spS_min hI o 4 (by omega)
  have h8 : (8 : Int32) ≤ nI s ↔ 8 ≤ s := nI_leI (a := 8) (b := s) (by omega) (by omega)
  rw [h2, h8]
  rcases pbL_min hI o 32 (by omega) with ⟨p1, p2⟩ | ⟨u, p1, p2, p3, j, q1, q2, q3, q4⟩
  · refine ⟨fun _ => p1, fun q => ?_⟩
    rcases h4 with h4 | ⟨j, a, b, c, e⟩
    · omega
    · exact absurd c (p2 j a b)
  · have a1 := h3 j q1 q2 q3
    refine ⟨fun q => by omega, fun _ => ?_⟩
    rcases h4 with h4 | ⟨i, a, b, c, e⟩
    · omega
    · have := p3 i a b c
      rw [p2, show u = s by omega]
