/-! THE SYSTEM'S STATE, in the reference's words: places (kind, and up to three numbers) that live, what stands there -/
def XL (σ : Sg) (a b c d : Nat) : Prop := match a with
  | 0 => b = 0 ∧ c = 0 ∧ d = 0
  | 1 => b = 0 ∧ c = 0 ∧ d = 0
  | 2 => b = 0 ∧ c = 0 ∧ d = 0
  | 3 => b = 0 ∧ c = 0 ∧ d = 0
  | 4 => b < nC σ ∧ c = 0 ∧ d = 0
  | 5 => b < nC σ ∧ c = 0 ∧ d = 0
  | 6 => b < nC σ ∧ c = 0 ∧ d = 0
  | 7 => b < nC σ ∧ c < 8 ∧ d = 0
  | 8 => b < nC σ ∧ c < 8 ∧ d = 0
  | 9 => b < nC σ ∧ c < 8 ∧ d < stp σ b c
  | 10 => b < 4 ∧ c = 0 ∧ d = 0
  | 11 => b < 4 ∧ c = 0 ∧ d = 0
  | 12 => b < 4 ∧ c < dN σ b ∧ d = 0
  | 13 => (b < nO σ ∧ σ 6 b = 1) ∧ c = 0 ∧ d = 0
  | 14 => (b < nO σ ∧ σ 6 b = 1) ∧ c = 0 ∧ d = 0
  | 15 => (b < nO σ ∧ σ 6 b = 1) ∧ c < 8 ∧ d = 0
  | _ => False
abbrev xAd : Type := Nat → Nat → Nat → Nat → Nat
def XC (G : hG) (ad : xAd) (σ : Sg) (a b c d : Nat) (e : va_E) : Prop := match a with
  | 0 => e = .inr (6, [.ref (ad 1 0 0 0), .int (nI (nC σ)), .ref (ad 2 0 0 0), .ref (ad 3 0 0 0), .int (nI (nO σ))])
  | 1 => ∃ g, e = hAQ G 3 6 g ∧ ∀ t, t < nC σ → g t = some (ad 4 t 0 0)
  | 2 => ∃ g, e = hAQ G 2 4 g ∧ ∀ t, t < 4 → g t = some (ad 10 t 0 0)
  | 3 => ∃ g, e = hAQ G 7 24 g ∧ ∀ o, o < nO σ → (σ 6 o = 1 → g o = some (ad 13 o 0 0)) ∧ (¬ σ 6 o = 1 → g o = none)
  | 4 => e = .inr (1, [.int (nI b), .ref (ad 5 b 0 0), .ref (ad 6 b 0 0), .int (nI (cnt σ b - 1)), .int (σ 1 (162 * b + 1))])
  | 5 => ∃ g, e = hAI G 8 g ∧ ∀ v, v < 8 → g v = σ 1 (162 * b + (2 + v))
  | 6 => ∃ g, e = hAQ G 4 8 g ∧ ∀ v, v < 8 → g v = some (ad 7 b v 0)
  | 7 => e = .inr (2, [.ref (ad 8 b c 0), .int (nI (stp σ b c))])
  | 8 => ∃ g, e = hAQ G 6 6 g ∧ ∀ n, n < stp σ b c → g n = some (ad 9 b c n)
  | 9 => e = .inr (4, [.int (σ 1 (stI b c d)), .int (σ 1 (stI b c d + 1)), .int (σ 1 (stI b c d + 2))])
  | 10 => e = .inr (0, [.ref (ad 11 b 0 0), .int (nI (dN σ b))])
  | 11 => ∃ g, e = hAQ G 5 8 g ∧ ∀ k, k < dN σ b → g k = some (ad 12 b k 0)
  | 12 => e = .inr (3, [.ref (ad 4 (fC σ (8 * b + c)) 0 0), .int (nI (fV σ (8 * b + c))), .int (σ 5 (8 * b + c))])
  | 13 => e = .inr (5, [.ref (ad 4 (oC σ b) 0 0), .int (nI (oF σ b)), .int (nI (oV σ b)), .ref (ad 14 b 0 0)])
  | 14 => ∃ g, e = hAQ G 8 8 g ∧ ∀ v, v < 8 → g v = some (ad 15 b v 0)
  | 15 => ∃ g, e = hAI G 8 g ∧ (oF σ b ≤ c → c ≤ oV σ b → ∀ k, k < 8 → g k = σ 10 (cel b c k))
  | _ => False
def RX (G : hG) (L : List Nat) (f : Nat → va_E) (ad : xAd) (σ : Sg) : Prop :=
  (∀ a b c d, XL σ a b c d → ad a b c d ∈ L ∧ XC G ad σ a b c d (f (ad a b c d))) ∧
  (∀ a b c d a2 b2 c2 d2, XL σ a b c d → XL σ a2 b2 c2 d2 → ad a b c d = ad a2 b2 c2 d2 → a = a2 ∧ b = b2 ∧ c = c2 ∧ d = d2)
/-- the world behind a call of the face -/
def XPo (G : hG) (h0 : Nat) (σ : Sg) (w : va_W) : Prop := ∃ (L : List Nat) (f : Nat → va_E) (ad : xAd), w = va_pl L f ∧ RX G L f ad σ ∧ ad 0 0 0 0 = h0
section RXL
variable {G : hG} {L : List Nat} {f : Nat → va_E} {ad : xAd} {σ : Sg}
theorem rx0 (hR : RX G L f ad σ) : ad 0 0 0 0 ∈ L ∧ f (ad 0 0 0 0) = .inr (6, [.ref (ad 1 0 0 0), .int (nI (nC σ)), .ref (ad 2 0 0 0), .ref (ad 3 0 0 0), .int (nI (nO σ))]) := hR.1 0 0 0 0 ⟨rfl, rfl, rfl⟩
theorem rx1 (hR : RX G L f ad σ) : ∃ g, ad 1 0 0 0 ∈ L ∧ f (ad 1 0 0 0) = hAQ G 3 6 g ∧ ∀ t, t < nC σ → g t = some (ad 4 t 0 0) := by
  obtain ⟨h1, g, h2, h3⟩ := hR.1 1 0 0 0 ⟨rfl, rfl, rfl⟩
  exact ⟨g, h1, h2, h3⟩
theorem rx2 (hR : RX G L f ad σ) : ∃ g, ad 2 0 0 0 ∈ L ∧ f (ad 2 0 0 0) = hAQ G 2 4 g ∧ ∀ t, t < 4 → g t = some (ad 10 t 0 0) := by
  obtain ⟨h1, g, h2, h3⟩ := hR.1 2 0 0 0 ⟨rfl, rfl, rfl⟩
  exact ⟨g, h1, h2, h3⟩
theorem rx3 (hR : RX G L f ad σ) : ∃ g, ad 3 0 0 0 ∈ L ∧ f (ad 3 0 0 0) = hAQ G 7 24 g ∧ ∀ o, o < nO σ → (σ 6 o = 1 → g o = some (ad 13 o 0 0)) ∧ (¬ σ 6 o = 1 → g o = none) := by
  obtain ⟨h1, g, h2, h3⟩ := hR.1 3 0 0 0 ⟨rfl, rfl, rfl⟩
  exact ⟨g, h1, h2, h3⟩
theorem rx4 (hR : RX G L f ad σ) {t : Nat} (ht : t < nC σ) : ad 4 t 0 0 ∈ L ∧ f (ad 4 t 0 0) = .inr (1, [.int (nI t), .ref (ad 5 t 0 0), .ref (ad 6 t 0 0), .int (nI (cnt σ t - 1)), .int (σ 1 (162 * t + 1))]) := hR.1 4 t 0 0 ⟨ht, rfl, rfl⟩
theorem rx5 (hR : RX G L f ad σ) {t : Nat} (ht : t < nC σ) : ∃ g, ad 5 t 0 0 ∈ L ∧ f (ad 5 t 0 0) = hAI G 8 g ∧ ∀ v, v < 8 → g v = σ 1 (162 * t + (2 + v)) := by
  obtain ⟨h1, g, h2, h3⟩ := hR.1 5 t 0 0 ⟨ht, rfl, rfl⟩
  exact ⟨g, h1, h2, h3⟩
theorem rx6 (hR : RX G L f ad σ) {t : Nat} (ht : t < nC σ) : ∃ g, ad 6 t 0 0 ∈ L ∧ f (ad 6 t 0 0) = hAQ G 4 8 g ∧ ∀ v, v < 8 → g v = some (ad 7 t v 0) := by
  obtain ⟨h1, g, h2, h3⟩ := hR.1 6 t 0 0 ⟨ht, rfl, rfl⟩
  exact ⟨g, h1, h2, h3⟩
theorem rx7 (hR : RX G L f ad σ) {t v : Nat} (ht : t < nC σ) (hv : v < 8) : ad 7 t v 0 ∈ L ∧ f (ad 7 t v 0) = .inr (2, [.ref (ad 8 t v 0), .int (nI (stp σ t v))]) := hR.1 7 t v 0 ⟨ht, hv, rfl⟩
theorem rx8 (hR : RX G L f ad σ) {t v : Nat} (ht : t < nC σ) (hv : v < 8) : ∃ g, ad 8 t v 0 ∈ L ∧ f (ad 8 t v 0) = hAQ G 6 6 g ∧ ∀ n, n < stp σ t v → g n = some (ad 9 t v n) := by
  obtain ⟨h1, g, h2, h3⟩ := hR.1 8 t v 0 ⟨ht, hv, rfl⟩
  exact ⟨g, h1, h2, h3⟩
theorem rx9 (hR : RX G L f ad σ) {t v n : Nat} (ht : t < nC σ) (hv : v < 8) (hn : n < stp σ t v) : ad 9 t v n ∈ L ∧ f (ad 9 t v n) = .inr (4, [.int (σ 1 (stI t v n)), .int (σ 1 (stI t v n + 1)), .int (σ 1 (stI t v n + 2))]) := hR.1 9 t v n ⟨ht, hv, hn⟩
theorem rx10 (hR : RX G L f ad σ) {t : Nat} (ht : t < 4) : ad 10 t 0 0 ∈ L ∧ f (ad 10 t 0 0) = .inr (0, [.ref (ad 11 t 0 0), .int (nI (dN σ t))]) := hR.1 10 t 0 0 ⟨ht, rfl, rfl⟩
theorem rx11 (hR : RX G L f ad σ) {t : Nat} (ht : t < 4) : ∃ g, ad 11 t 0 0 ∈ L ∧ f (ad 11 t 0 0) = hAQ G 5 8 g ∧ ∀ k, k < dN σ t → g k = some (ad 12 t k 0) := by
  obtain ⟨h1, g, h2, h3⟩ := hR.1 11 t 0 0 ⟨ht, rfl, rfl⟩
  exact ⟨g, h1, h2, h3⟩
theorem rx12 (hR : RX G L f ad σ) {t k : Nat} (ht : t < 4) (hk : k < dN σ t) : ad 12 t k 0 ∈ L ∧ f (ad 12 t k 0) = .inr (3, [.ref (ad 4 (fC σ (8 * t + k)) 0 0), .int (nI (fV σ (8 * t + k))), .int (σ 5 (8 * t + k))]) := hR.1 12 t k 0 ⟨ht, hk, rfl⟩
theorem rx13 (hR : RX G L f ad σ) {o : Nat} (ho : o < nO σ) (hx : σ 6 o = 1) : ad 13 o 0 0 ∈ L ∧ f (ad 13 o 0 0) = .inr (5, [.ref (ad 4 (oC σ o) 0 0), .int (nI (oF σ o)), .int (nI (oV σ o)), .ref (ad 14 o 0 0)]) := hR.1 13 o 0 0 ⟨⟨ho, hx⟩, rfl, rfl⟩
theorem rx14 (hR : RX G L f ad σ) {o : Nat} (ho : o < nO σ) (hx : σ 6 o = 1) : ∃ g, ad 14 o 0 0 ∈ L ∧ f (ad 14 o 0 0) = hAQ G 8 8 g ∧ ∀ v, v < 8 → g v = some (ad 15 o v 0) := by
  obtain ⟨h1, g, h2, h3⟩ := hR.1 14 o 0 0 ⟨⟨ho, hx⟩, rfl, rfl⟩
  exact ⟨g, h1, h2, h3⟩
theorem rx15 (hR : RX G L f ad σ) {o v : Nat} (ho : o < nO σ) (hx : σ 6 o = 1) (hv : v < 8) : ∃ g, ad 15 o v 0 ∈ L ∧ f (ad 15 o v 0) = hAI G 8 g ∧ (oF σ o ≤ v → v ≤ oV σ o → ∀ k, k < 8 → g k = σ 10 (cel o v k)) := by
  obtain ⟨h1, g, h2, h3⟩ := hR.1 15 o v 0 ⟨⟨ho, hx⟩, hv, rfl⟩
  exact ⟨g, h1, h2, h3⟩
/-- live frames of the reference are those of the stacks -/
theorem liv_at {σ : Sg} {t k : Nat} (hk : k < dN σ t) (h8 : dN σ t ≤ 8) : liv σ (8 * t + k) := by
  unfold liv
  rw [show (8 * t + k) / 8 = t by omega, show (8 * t + k) % 8 = k by omega]
  exact hk
end RXL
