/-! the class's moves -/
theorem m11 (σ : Sg) (i : Nat) (x : Int32) (j : Nat) : mS σ 1 i x 1 j = if j = i then x else σ 1 j := by rw [mS_at]; simp
theorem mS_k {σ : Sg} {k j : Nat} {x : Int32} {k' : Nat} (h : k' ≠ k) : mS σ k j x k' = σ k' := by funext i; exact mS_nk σ j i x h
section RXC
variable {G : hG} {L : List Nat} {f : Nat → va_E} {ad : xAd} {σ : Sg}
/-- the history's own cell alone: its current version and its mark -/
theorem rx_hist (hI : Inv σ) (hR : RX G L f ad σ) {t : Nat} (ht : t < nC σ) {cur : Nat} {stg : Int32} {σ2 : Sg} (hk : ∀ k, k ≠ 1 → σ2 k = σ k) (h1 : ∀ j, j ≠ 162 * t + 0 → j ≠ 162 * t + 1 → σ2 1 j = σ 1 j) (h0 : cnt σ2 t - 1 = cur) (hs : σ2 1 (162 * t + 1) = stg) :
    RX G L (va_up f (ad 4 t 0 0) (.inr (1, [.int (nI t), .ref (ad 5 t 0 0), .ref (ad 6 t 0 0), .int (nI cur), .int stg]))) ad σ2 := by
  have l4 : XL σ 4 t 0 0 := ⟨ht, rfl, rfl⟩
  have eS : ∀ v, v < 8 → stp σ2 t v = stp σ t v := fun v hv => by unfold stp; rw [h1 _ (by omega) (by omega)]
  have eF : ∀ a b c d, XL σ a b c d → ¬ (a = 4 ∧ b = t ∧ c = 0 ∧ d = 0) → va_up f (ad 4 t 0 0) (.inr (1, [.int (nI t), .ref (ad 5 t 0 0), .ref (ad 6 t 0 0), .int (nI cur), .int stg])) (ad a b c d) = f (ad a b c d) := fun a b c d h hn => va_up_n _ _ (rx_ne hR h l4 hn)
  refine RX_cls (v0 := 0) (n0 := 0) hI hR ht hk (fun j hj => h1 j (by omega) (by omega)) (fun x h => h) (fun a b c d h => rfl) (fun a b c d h hn => eF a b c d h (by omega)) (fun v n hv hn => Or.inl (by rw [← eS v hv]; exact hn)) ?_ ?_ ?_ (fun v hv => ?_) (fun v hv => ?_) (fun v n hv hn => ?_)
  · rw [va_up_s]
    show _ = _
    rw [h0, hs]
  · rw [eF 5 t 0 0 ⟨ht, rfl, rfl⟩ (by omega)]
    obtain ⟨g, _, q1, q2⟩ := rx5 hR ht
    exact ⟨g, q1, fun v hv => by rw [h1 _ (by omega) (by omega)]; exact q2 v hv⟩
  · rw [eF 6 t 0 0 ⟨ht, rfl, rfl⟩ (by omega)]
    obtain ⟨g, _, q1, q2⟩ := rx6 hR ht
    exact ⟨g, q1, q2⟩
  · rw [eF 7 t v 0 ⟨ht, hv, rfl⟩ (by omega), (rx7 hR ht hv).2]
    show _ = _
    rw [eS v hv]
  · rw [eF 8 t v 0 ⟨ht, hv, rfl⟩ (by omega)]
    obtain ⟨g, _, q1, q2⟩ := rx8 hR ht hv
    exact ⟨g, q1, fun n hn => q2 n (by rw [← eS v hv]; exact hn)⟩
  · rw [eS v hv] at hn
    rw [eF 9 t v n ⟨ht, hv, hn⟩ (by omega), (rx9 hR ht hv hn).2]
    show _ = _
    rw [h1 (stI t v n) (by unfold stI; omega) (by unfold stI; omega), h1 (stI t v n + 1) (by unfold stI; omega) (by unfold stI; omega), h1 (stI t v n + 2) (by unfold stI; omega) (by unfold stI; omega)]
theorem rx_act (hI : Inv σ) (hR : RX G L f ad σ) {t : Nat} (ht : t < nC σ) (h7 : cnt σ t ≤ 7) :
    RX G L (va_up f (ad 4 t 0 0) (.inr (1, [.int (nI t), .ref (ad 5 t 0 0), .ref (ad 6 t 0 0), .int (nI (cnt σ t - 1 + 1)), .int 0]))) ad (mS (mS σ 1 (162 * t + 1) 0) 1 (162 * t + 0) (nI (cnt σ t + 1))) := by
  have hk := (hI.2.2.1 t ht).1.2.1
  refine rx_hist hI hR ht (fun k h => by rw [mS_k h, mS_k h]) (fun j h h2 => by rw [m11, if_neg h, m11, if_neg h2]) ?_ ?_
  · unfold cnt
    rw [m11, if_pos rfl, show cN (nI (cN (σ 1 (162 * t + 0)) + 1)) = cnt σ t + 1 from nI_clamp (show cnt σ t + 1 < 2 ^ 31 by omega)]
    show cnt σ t + 1 - 1 = cnt σ t - 1 + 1
    omega
  · rw [m11, if_neg (by omega), m11, if_pos rfl]
theorem rx_disc (hI : Inv σ) (hR : RX G L f ad σ) {t : Nat} (ht : t < nC σ) :
    RX G L (va_up f (ad 4 t 0 0) (.inr (1, [.int (nI t), .ref (ad 5 t 0 0), .ref (ad 6 t 0 0), .int (nI (cnt σ t - 1)), .int 0]))) ad (mS σ 1 (162 * t + 1) 0) := by
  refine rx_hist hI hR ht (fun k h => by rw [mS_k h]) (fun j h h2 => by rw [m11, if_neg h2]) ?_ ?_
  · unfold cnt
    rw [m11, if_neg (by omega)]
  · rw [m11, if_pos rfl]
theorem rx_stage (hI : Inv σ) (hR : RX G L f ad σ) {t : Nat} (ht : t < nC σ) (h7 : cnt σ t ≤ 7) {gf : Nat → Int32} (he : ∀ v, v < 8 → gf v = σ 1 (162 * t + (2 + v))) :
    RX G L (va_up (va_up (va_up f (ad 5 t 0 0) (hAI G 8 (upd gf (cnt σ t - 1 + 1) (gf (cnt σ t - 1))))) (ad 7 t (cnt σ t - 1 + 1) 0) (.inr (2, [.ref (ad 8 t (cnt σ t - 1 + 1) 0), .int 0]))) (ad 4 t 0 0) (.inr (1, [.int (nI t), .ref (ad 5 t 0 0), .ref (ad 6 t 0 0), .int (nI (cnt σ t - 1)), .int 1]))) ad
      (mS (mS (mS σ 1 (162 * t + 1) 1) 1 (162 * t + (2 + cnt σ t)) (σ 1 (162 * t + (2 + cnt σ t - 1)))) 1 (162 * t + (10 + cnt σ t)) 0) := by
  have hk := (hI.2.2.1 t ht).1.2.1
  have hc : cnt σ t - 1 + 1 = cnt σ t := by omega
  rw [hc]
  have l4 : XL σ 4 t 0 0 := ⟨ht, rfl, rfl⟩
  have l5 : XL σ 5 t 0 0 := ⟨ht, rfl, rfl⟩
  have l7 : XL σ 7 t (cnt σ t) 0 := ⟨ht, by omega, rfl⟩
  generalize hs2 : mS (mS (mS σ 1 (162 * t + 1) 1) 1 (162 * t + (2 + cnt σ t)) (σ 1 (162 * t + (2 + cnt σ t - 1)))) 1 (162 * t + (10 + cnt σ t)) 0 = σ2
  have h1 : ∀ j, σ2 1 j = if j = 162 * t + (10 + cnt σ t) then 0 else if j = 162 * t + (2 + cnt σ t) then σ 1 (162 * t + (2 + cnt σ t - 1)) else if j = 162 * t + 1 then 1 else σ 1 j := fun j => by rw [← hs2, m11, m11, m11]
  have hk2 : ∀ k, k ≠ 1 → σ2 k = σ k := fun k h => by rw [← hs2, mS_k h, mS_k h, mS_k h]
  have eS : ∀ v, v < 8 → v ≠ cnt σ t → stp σ2 t v = stp σ t v := fun v hv hn => by unfold stp; rw [h1, if_neg (by omega), if_neg (by omega), if_neg (by omega)]
  have eS0 : stp σ2 t (cnt σ t) = 0 := by unfold stp; rw [h1, if_pos rfl]; rfl
  have eK : cnt σ2 t = cnt σ t := by
    show cN (σ2 1 (162 * t + 0)) = _
    rw [h1, if_neg (by omega), if_neg (by omega), if_neg (by omega)]; rfl
  generalize hf2 : va_up (va_up (va_up f (ad 5 t 0 0) (hAI G 8 (upd gf (cnt σ t) (gf (cnt σ t - 1))))) (ad 7 t (cnt σ t) 0) (.inr (2, [.ref (ad 8 t (cnt σ t) 0), .int 0]))) (ad 4 t 0 0) (.inr (1, [.int (nI t), .ref (ad 5 t 0 0), .ref (ad 6 t 0 0), .int (nI (cnt σ t - 1)), .int 1])) = f2
  have eF : ∀ a b c d, XL σ a b c d → ¬ (a = 4 ∧ b = t ∧ c = 0 ∧ d = 0) → ¬ (a = 5 ∧ b = t ∧ c = 0 ∧ d = 0) → ¬ (a = 7 ∧ b = t ∧ c = cnt σ t ∧ d = 0) → f2 (ad a b c d) = f (ad a b c d) := fun a b c d h n1 n2 n3 => by
    rw [← hf2, va_up_n _ _ (rx_ne hR h l4 n1), va_up_n _ _ (rx_ne hR h l7 n3), va_up_n _ _ (rx_ne hR h l5 n2)]
  have f4 : f2 (ad 4 t 0 0) = .inr (1, [.int (nI t), .ref (ad 5 t 0 0), .ref (ad 6 t 0 0), .int (nI (cnt σ t - 1)), .int 1]) := by rw [← hf2, va_up_s]
  have f7 : f2 (ad 7 t (cnt σ t) 0) = .inr (2, [.ref (ad 8 t (cnt σ t) 0), .int 0]) := by rw [← hf2, va_up_n _ _ (rx_ne hR l7 l4 (by omega)), va_up_s]
  have f5 : f2 (ad 5 t 0 0) = hAI G 8 (upd gf (cnt σ t) (gf (cnt σ t - 1))) := by rw [← hf2, va_up_n _ _ (rx_ne hR l5 l4 (by omega)), va_up_n _ _ (rx_ne hR l5 l7 (by omega)), va_up_s]
  have hle : ∀ v n, v < 8 → n < stp σ2 t v → v ≠ cnt σ t ∧ n < stp σ t v := fun v n hv hn => by
    by_cases e : v = cnt σ t
    · rw [e, eS0] at hn; omega
    · exact ⟨e, by rw [← eS v hv e]; exact hn⟩
  refine RX_cls (v0 := 0) (n0 := 0) hI hR ht hk2 (fun j hj => by rw [h1, if_neg (by omega), if_neg (by omega), if_neg (by omega)]) (fun x h => h) (fun a b c d h => rfl) (fun a b c d h hn => eF a b c d h (by omega) (by omega) (by omega)) (fun v n hv hn => Or.inl (hle v n hv hn).2) ?_ ?_ ?_ (fun v hv => ?_) (fun v hv => ?_) (fun v n hv hn => ?_)
  · rw [f4]
    show _ = _
    rw [eK, h1, if_neg (by omega), if_neg (by omega), if_pos rfl]
  · rw [f5]
    refine ⟨_, rfl, fun v hv => ?_⟩
    rw [h1, if_neg (by omega)]
    by_cases e : v = cnt σ t
    · rw [if_pos (by omega), e, upd, if_pos rfl, he _ (by omega), show 2 + (cnt σ t - 1) = 2 + cnt σ t - 1 by omega]
    · rw [if_neg (by omega), if_neg (by omega), upd, if_neg e, he v hv]
  · rw [eF 6 t 0 0 ⟨ht, rfl, rfl⟩ (by omega) (by omega) (by omega)]
    obtain ⟨g, _, q1, q2⟩ := rx6 hR ht
    exact ⟨g, q1, q2⟩
  · by_cases e : v = cnt σ t
    · subst e
      rw [f7]
      show _ = _
      rw [eS0]; rfl
    · rw [eF 7 t v 0 ⟨ht, hv, rfl⟩ (by omega) (by omega) (by omega), (rx7 hR ht hv).2]
      show _ = _
      rw [eS v hv e]
  · rw [eF 8 t v 0 ⟨ht, hv, rfl⟩ (by omega) (by omega) (by omega)]
    obtain ⟨g, _, q1, q2⟩ := rx8 hR ht hv
    exact ⟨g, q1, fun n hn => q2 n (hle v n hv hn).2⟩
  · obtain ⟨e, hn2⟩ := hle v n hv hn
    have h6 := ((hI.2.2.1 t ht).2.2 v hv).1.2
    rw [eF 9 t v n ⟨ht, hv, hn2⟩ (by omega) (by omega) (by omega), (rx9 hR ht hv hn2).2]
    show _ = _
    have cc : ∀ i, i ≤ 2 → σ2 1 (stI t v n + i) = σ 1 (stI t v n + i) := fun i hi => by rw [h1, if_neg (by unfold stI; omega), if_neg (by unfold stI; omega), if_neg (by unfold stI; omega)]
    rw [cc 1 (by omega), cc 2 (by omega), show σ2 1 (stI t v n) = σ 1 (stI t v n) from cc 0 (by omega)]
end RXC
/-! a step more -/
def adU (ad : xAd) (a b c d q : Nat) : xAd := fun a2 b2 c2 d2 => if a2 = a ∧ b2 = b ∧ c2 = c ∧ d2 = d then q else ad a2 b2 c2 d2
theorem adU_s (ad : xAd) (a b c d q : Nat) : adU ad a b c d q a b c d = q := by simp [adU]
theorem adU_n (ad : xAd) {a b c d q a2 b2 c2 d2 : Nat} (h : ¬ (a2 = a ∧ b2 = b ∧ c2 = c ∧ d2 = d)) : adU ad a b c d q a2 b2 c2 d2 = ad a2 b2 c2 d2 := if_neg h
section RXA
variable {G : hG} {L : List Nat} {f : Nat → va_E} {ad : xAd} {σ : Sg}
theorem rx_append (hI : Inv σ) (hR : RX G L f ad σ) {t : Nat} (ht : t < nC σ) (h7 : cnt σ t ≤ 7) {gf : Nat → Int32} (he : ∀ v, v < 8 → gf v = σ 1 (162 * t + (2 + v))) {g1 : Nat → Option Nat} (hg1 : ∀ n, n < stp σ t (cnt σ t) → g1 n = some (ad 9 t (cnt σ t) n)) (hl : stp σ t (cnt σ t) < 6) {q : Nat} (hq : q ∉ L) {K A B F : Int32} :
    RX G (L ++ [q]) (va_up (va_up (va_up (va_up f q (.inr (4, [.int K, .int A, .int B]))) (ad 5 t 0 0) (hAI G 8 (upd gf (cnt σ t) F))) (ad 8 t (cnt σ t) 0) (hAQ G 6 6 (va_up g1 (stp σ t (cnt σ t)) (some q)))) (ad 7 t (cnt σ t) 0) (.inr (2, [.ref (ad 8 t (cnt σ t) 0), .int (nI (stp σ t (cnt σ t) + 1))])))
      (adU ad 9 t (cnt σ t) (stp σ t (cnt σ t)) q) (M_append σ t K A B F).2 := by
  have hk := (hI.2.2.1 t ht).1.2.1
  have l5 : XL σ 5 t 0 0 := ⟨ht, rfl, rfl⟩
  have l7 : XL σ 7 t (cnt σ t) 0 := ⟨ht, by omega, rfl⟩
  have l8 : XL σ 8 t (cnt σ t) 0 := ⟨ht, by omega, rfl⟩
  generalize hs2 : (M_append σ t K A B F).2 = σ2
  rw [M_append, wif_f (by omega)] at hs2
  have hs2 : mS (mS (mS (mS (mS σ 1 (stB σ t) K) 1 (stB σ t + 1) A) 1 (stB σ t + 2) B) 1 (162 * t + (10 + cnt σ t)) (nI (stp σ t (cnt σ t) + 1))) 1 (162 * t + (2 + cnt σ t)) F = σ2 := hs2
  have h1 : ∀ j, σ2 1 j = if j = 162 * t + (2 + cnt σ t) then F else if j = 162 * t + (10 + cnt σ t) then nI (stp σ t (cnt σ t) + 1) else if j = stB σ t + 2 then B else if j = stB σ t + 1 then A else if j = stB σ t then K else σ 1 j := fun j => by rw [← hs2, m11, m11, m11, m11, m11]
  have hk2 : ∀ k, k ≠ 1 → σ2 k = σ k := fun k h => by rw [← hs2]; show mS _ _ _ _ k = _; rw [mS_k h, mS_k h, mS_k h, mS_k h, mS_k h]
  have hB : stB σ t = stI t (cnt σ t) (stp σ t (cnt σ t)) := rfl
  have eS : ∀ v, v < 8 → v ≠ cnt σ t → stp σ2 t v = stp σ t v := fun v hv hn => by unfold stp; rw [h1, hB, if_neg (by omega), if_neg (by omega), if_neg (by unfold stI; omega), if_neg (by unfold stI; omega), if_neg (by unfold stI; omega)]
  have eS0 : stp σ2 t (cnt σ t) = stp σ t (cnt σ t) + 1 := by
    show cN (σ2 1 (162 * t + (10 + cnt σ t))) = _
    rw [h1, if_neg (by omega), if_pos rfl]
    exact nI_clamp (by omega)
  have eK : cnt σ2 t = cnt σ t := by
    show cN (σ2 1 (162 * t + 0)) = _
    rw [h1, hB, if_neg (by omega), if_neg (by omega), if_neg (by unfold stI; omega), if_neg (by unfold stI; omega), if_neg (by unfold stI; omega)]; rfl
  have hnew : ¬ XL σ 9 t (cnt σ t) (stp σ t (cnt σ t)) := fun ⟨_, _, z⟩ => by omega
  have had : ∀ a b c d, XL σ a b c d → adU ad 9 t (cnt σ t) (stp σ t (cnt σ t)) q a b c d = ad a b c d := fun a b c d h => adU_n ad (fun ⟨e1, e2, e3, e4⟩ => hnew (by rw [e1, e2, e3, e4] at h; exact h))
  have hqn : ∀ a b c d, XL σ a b c d → ad a b c d ≠ q := fun a b c d h z => hq (z ▸ (hR.1 a b c d h).1)
  generalize hf2 : va_up (va_up (va_up (va_up f q (.inr (4, [.int K, .int A, .int B]))) (ad 5 t 0 0) (hAI G 8 (upd gf (cnt σ t) F))) (ad 8 t (cnt σ t) 0) (hAQ G 6 6 (va_up g1 (stp σ t (cnt σ t)) (some q)))) (ad 7 t (cnt σ t) 0) (.inr (2, [.ref (ad 8 t (cnt σ t) 0), .int (nI (stp σ t (cnt σ t) + 1))])) = f2
  have eF : ∀ a b c d, XL σ a b c d → ¬ (a = 5 ∧ b = t ∧ c = 0 ∧ d = 0) → ¬ (a = 7 ∧ b = t ∧ c = cnt σ t ∧ d = 0) → ¬ (a = 8 ∧ b = t ∧ c = cnt σ t ∧ d = 0) → f2 (ad a b c d) = f (ad a b c d) := fun a b c d h n1 n2 n3 => by
    rw [← hf2, va_up_n _ _ (rx_ne hR h l7 n2), va_up_n _ _ (rx_ne hR h l8 n3), va_up_n _ _ (rx_ne hR h l5 n1), va_up_n _ _ (hqn _ _ _ _ h)]
  have f7 : f2 (ad 7 t (cnt σ t) 0) = .inr (2, [.ref (ad 8 t (cnt σ t) 0), .int (nI (stp σ t (cnt σ t) + 1))]) := by rw [← hf2, va_up_s]
  have f8 : f2 (ad 8 t (cnt σ t) 0) = hAQ G 6 6 (va_up g1 (stp σ t (cnt σ t)) (some q)) := by rw [← hf2, va_up_n _ _ (rx_ne hR l8 l7 (by omega)), va_up_s]
  have f5 : f2 (ad 5 t 0 0) = hAI G 8 (upd gf (cnt σ t) F) := by rw [← hf2, va_up_n _ _ (rx_ne hR l5 l7 (by omega)), va_up_n _ _ (rx_ne hR l5 l8 (by omega)), va_up_s]
  have f9 : f2 q = .inr (4, [.int K, .int A, .int B]) := by rw [← hf2, va_up_n _ _ (hqn _ _ _ _ l7).symm, va_up_n _ _ (hqn _ _ _ _ l8).symm, va_up_n _ _ (hqn _ _ _ _ l5).symm, va_up_s]
  have hle : ∀ v n, v < 8 → n < stp σ2 t v → n < stp σ t v ∨ (v = cnt σ t ∧ n = stp σ t (cnt σ t)) := fun v n hv hn => by
    by_cases e : v = cnt σ t
    · rw [e, eS0] at hn; rw [e]; omega
    · exact Or.inl (by rw [← eS v hv e]; exact hn)
  refine RX_cls (v0 := cnt σ t) (n0 := stp σ t (cnt σ t)) hI hR ht hk2 (fun j hj => by rw [h1, hB, if_neg (by omega), if_neg (by omega), if_neg (by unfold stI; omega), if_neg (by unfold stI; omega), if_neg (by unfold stI; omega)]) (fun x h => List.mem_append_left _ h) had (fun a b c d h hn => eF a b c d h (by omega) (by omega) (by omega)) (fun v n hv hn => (hle v n hv hn).elim Or.inl (fun z => Or.inr ⟨z.1, z.2, by rw [adU_s]; exact hq, by rw [adU_s]; exact List.mem_append_right _ (List.mem_singleton.mpr rfl)⟩)) ?_ ?_ ?_ (fun v hv => ?_) (fun v hv => ?_) (fun v n hv hn => ?_)
  · rw [had 4 t 0 0 ⟨ht, rfl, rfl⟩, eF 4 t 0 0 ⟨ht, rfl, rfl⟩ (by omega) (by omega) (by omega), (rx4 hR ht).2]
    show _ = _
    rw [had 5 t 0 0 ⟨ht, rfl, rfl⟩, had 6 t 0 0 ⟨ht, rfl, rfl⟩, eK, h1, hB, if_neg (by omega), if_neg (by omega), if_neg (by unfold stI; omega), if_neg (by unfold stI; omega), if_neg (by unfold stI; omega)]
  · rw [had 5 t 0 0 l5, f5]
    refine ⟨_, rfl, fun v hv => ?_⟩
    rw [h1, hB]
    by_cases e : v = cnt σ t
    · rw [if_pos (by omega), e, upd, if_pos rfl]
    · rw [if_neg (by omega), if_neg (by omega), if_neg (by unfold stI; omega), if_neg (by unfold stI; omega), if_neg (by unfold stI; omega), upd, if_neg e, he v hv]
  · rw [had 6 t 0 0 ⟨ht, rfl, rfl⟩, eF 6 t 0 0 ⟨ht, rfl, rfl⟩ (by omega) (by omega) (by omega)]
    obtain ⟨g, _, q1, q2⟩ := rx6 hR ht
    exact ⟨g, q1, fun v hv => by rw [had 7 t v 0 ⟨ht, hv, rfl⟩]; exact q2 v hv⟩
  · rw [had 7 t v 0 ⟨ht, hv, rfl⟩]
    by_cases e : v = cnt σ t
    · subst e
      rw [f7]
      show _ = _
      rw [had 8 t _ 0 l8, eS0]
    · rw [eF 7 t v 0 ⟨ht, hv, rfl⟩ (by omega) (by omega) (by omega), (rx7 hR ht hv).2]
      show _ = _
      rw [had 8 t v 0 ⟨ht, hv, rfl⟩, eS v hv e]
  · rw [had 8 t v 0 ⟨ht, hv, rfl⟩]
    by_cases e : v = cnt σ t
    · subst e
      rw [f8]
      refine ⟨_, rfl, fun n hn => ?_⟩
      rw [eS0] at hn
      by_cases e2 : n = stp σ t (cnt σ t)
      · rw [e2, va_up_s, adU_s]
      · rw [va_up_n _ _ e2, had 9 t _ n ⟨ht, hv, by omega⟩, hg1 n (by omega)]
    · rw [eF 8 t v 0 ⟨ht, hv, rfl⟩ (by omega) (by omega) (by omega)]
      obtain ⟨g, _, q1, q2⟩ := rx8 hR ht hv
      exact ⟨g, q1, fun n hn => by rw [eS v hv e] at hn; rw [had 9 t v n ⟨ht, hv, hn⟩]; exact q2 n hn⟩
  · have h6 := ((hI.2.2.1 t ht).2.2 v hv).1.2
    rcases hle v n hv hn with hn2 | ⟨e1, e2⟩
    · rw [had 9 t v n ⟨ht, hv, hn2⟩, eF 9 t v n ⟨ht, hv, hn2⟩ (by omega) (by omega) (by omega), (rx9 hR ht hv hn2).2]
      show _ = _
      have hne : v = cnt σ t → n < stp σ t (cnt σ t) := fun z => z ▸ hn2
      have cc : ∀ i, i ≤ 2 → σ2 1 (stI t v n + i) = σ 1 (stI t v n + i) := fun i hi => by
        have hd : v < cnt σ t ∨ v = cnt σ t ∨ cnt σ t < v := by omega
        rw [h1, hB, if_neg (by unfold stI; omega), if_neg (by unfold stI; omega), if_neg (by unfold stI; omega), if_neg (by unfold stI; omega), if_neg (by unfold stI; omega)]
      rw [cc 1 (by omega), cc 2 (by omega), show σ2 1 (stI t v n) = σ 1 (stI t v n) from cc 0 (by omega)]
    · subst e1; subst e2
      rw [adU_s, f9]
      show _ = _
      rw [h1 (stI t (cnt σ t) (stp σ t (cnt σ t))), h1 (stI t (cnt σ t) (stp σ t (cnt σ t)) + 1), h1 (stI t (cnt σ t) (stp σ t (cnt σ t)) + 2), hB]
      rw [if_neg (by unfold stI; omega), if_neg (by unfold stI; omega), if_neg (by unfold stI; omega), if_neg (by unfold stI; omega), if_pos rfl]
      rw [if_neg (by unfold stI; omega), if_neg (by unfold stI; omega), if_neg (by unfold stI; omega), if_pos rfl]
      rw [if_neg (by unfold stI; omega), if_neg (by unfold stI; omega), if_pos rfl]
end RXA
