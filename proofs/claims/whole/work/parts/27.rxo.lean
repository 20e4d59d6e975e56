/-! objects' moves -/
section RXO
variable {G : hG} {L : List Nat} {f : Nat → va_E} {ad : xAd} {σ : Sg}
theorem conv_post (hI : Inv σ) (hR : RX G L f ad σ) {o tg : Nat} (ho : o < nO σ) (hx : σ 6 o = 1) (h1 : oV σ o ≤ tg) (h2 : tg < 8) {rv : Nat → Nat → Int32} (hrv : ∀ v, v < 8 → f (ad 15 o v 0) = hAI G 8 (rv v)) {r : Int32} {wd : va_W} {X : Bool × (Nat → Nat → Int32)}
    (hX : cxR (fun v n => σ 1 (stI (oC σ o) v n)) (fun v n => σ 1 (stI (oC σ o) v n + 1)) (fun v n => σ 1 (stI (oC σ o) v n + 2)) (fun v => stp σ (oC σ o) v) rv (oV σ o) (tg - oV σ o) = X)
    (hp : isB r (X.1 = true) ∧ (X.1 = true → wd = va_pl L (va_up (hpR G f (fun v => ad 15 o v 0) X.2 8) (ad 13 o 0 0) (.inr (5, [.ref (ad 4 (oC σ o) 0 0), .int (nI (oF σ o)), .int (nI tg), .ref (ad 14 o 0 0)])))) ∧ (¬ X.1 = true → wd = va_pl L (hpR G f (fun v => ad 15 o v 0) X.2 8))) :
    isB r ((M_convert σ o tg).1 = true) ∧ ∃ f2, wd = va_pl L f2 ∧ RX G L f2 ad (M_convert σ o tg).2 := by
  have l13 : XL σ 13 o 0 0 := ⟨⟨ho, hx⟩, rfl, rfl⟩
  have l15 : ∀ v, v < 8 → XL σ 15 o v 0 := fun v hv => ⟨⟨ho, hx⟩, hv, rfl⟩
  obtain ⟨⟨o1, o2⟩, ⟨o3, o4⟩, ⟨o5, o6⟩, o7⟩ := (hI.2.2.2.2.2 o ho).2 hx
  obtain ⟨g14, _, f14, e14⟩ := rx14 hR ho hx
  have he : ∀ v, v < 8 → oF σ o ≤ v → v ≤ oV σ o → ∀ k, k < 8 → rv v k = σ 10 (cel o v k) := fun v hv q1 q2 k hk => by
    obtain ⟨g, _, q3, q4⟩ := rx15 hR ho hx hv
    have e : hAI G 8 g = hAI G 8 (rv v) := q3.symm.trans (hrv v hv)
    have e2 : g = rv v := by simpa [hAI] using e
    rw [← e2]
    exact q4 q1 q2 k hk
  obtain ⟨i1, i2, i3, i4⟩ := conv_rel hI ho hx he h2 (tg - oV σ o) (by omega)
  rw [hX] at i1 i2 i4
  have hinj : ∀ i j, i < 8 → j < 8 → (fun v => ad 15 o v 0) i = (fun v => ad 15 o v 0) j → i = j := fun i j hi hj e => (hR.2 _ _ _ _ _ _ _ _ (l15 i hi) (l15 j hj) e).2.2.1
  have hO : ∀ a b c d, XL σ a b c d → ¬ (b = o ∧ a = 15) → hpR G f (fun v => ad 15 o v 0) X.2 8 (ad a b c d) = f (ad a b c d) := fun a b c d h n => hp_other 8 (fun v hv => rx_ne hR h (l15 v hv) (by omega))
  by_cases c : (cvV σ o (oV σ o) (tg - oV σ o)).1 = true
  · have hw := hp.2.1 (i1.trans c)
    rw [M_convert_t c]
    refine ⟨⟨fun _ => hp.1.1 (i1.trans c), fun q => absurd rfl q⟩, _, hw, ?_⟩
    show RX G L _ ad (mS (cvV σ o (oV σ o) (tg - oV σ o)).2 8 o (nI tg))
    generalize hs2 : mS (cvV σ o (oV σ o) (tg - oV σ o)).2 8 o (nI tg) = σ2
    have hk : ∀ k, k ≠ 8 → k ≠ 10 → σ2 k = σ k := fun k n8 n10 => by rw [← hs2, mS_k n8]; funext j; exact cvV_k _ n10 j
    have h8 : ∀ j, σ2 8 j = if j = o then nI tg else σ 8 j := fun j => by rw [← hs2, mk1, cvV_k _ (by decide)]
    have h10 : ∀ j, σ2 10 j = (cvV σ o (oV σ o) (tg - oV σ o)).2 10 j := fun j => by rw [← hs2, mS_k (by decide)]
    have k0 := hk 0 (by decide) (by decide)
    have k6 := hk 6 (by decide) (by decide)
    have eO : nO σ2 = nO σ := by unfold nO; rw [k0]
    have eC : nC σ2 = nC σ := by unfold nC; rw [k0]
    refine RX_obj (o := o) hI hR (fun k q1 q2 => hk k (by omega) (by omega)) (by rw [k0]) (fun x h => h) (fun a b c d h => rfl) (fun a b c d h n0 n3 hn => ?_) (fun u hu q1 q2 => ⟨eO ▸ q1, by rw [← k6]; exact q2⟩) (fun u hu => ⟨by rw [hk 7 (by decide) (by decide)], by rw [h8, if_neg hu], by rw [hk 9 (by decide) (by decide)]⟩) (fun u v k hu hv hk3 => by rw [h10]; exact i3 _ (by unfold cel; omega)) (fun n => absurd ⟨ho, hx⟩ n) (fun n => absurd ⟨ho, hx⟩ n) ?_ ?_ (fun _ _ => ⟨?_, ?_, fun v hv => ?_⟩)
    · rw [va_up_n _ _ (rx_ne hR h l13 (by omega))]
      exact hO a b c d h (by omega)
    · rw [va_up_n _ _ (rx_ne hR (show XL σ 0 0 0 0 from ⟨rfl, rfl, rfl⟩) l13 (by omega)), hO 0 0 0 0 ⟨rfl, rfl, rfl⟩ (by omega), (rx0 hR).2]
      show _ = _
      rw [eC, eO]
    · rw [va_up_n _ _ (rx_ne hR (show XL σ 3 0 0 0 from ⟨rfl, rfl, rfl⟩) l13 (by omega)), hO 3 0 0 0 ⟨rfl, rfl, rfl⟩ (by omega)]
      obtain ⟨g, _, q1, q2⟩ := rx3 hR
      exact ⟨g, q1, fun u hu => by rw [k6]; exact q2 u (eO ▸ hu)⟩
    · rw [va_up_s]
      show _ = _
      unfold oC oF oV
      rw [hk 7 (by decide) (by decide), hk 9 (by decide) (by decide), h8, if_pos rfl, show cN (nI tg) = tg from nI_clamp (by omega)]
    · rw [va_up_n _ _ (rx_ne hR (show XL σ 14 o 0 0 from ⟨⟨ho, hx⟩, rfl, rfl⟩) l13 (by omega)), hO 14 o 0 0 ⟨⟨ho, hx⟩, rfl, rfl⟩ (by omega)]
      exact ⟨g14, f14, e14⟩
    · rw [va_up_n _ _ (rx_ne hR (l15 v hv) l13 (by omega))]
      refine ⟨X.2 v, hp_row 8 hinj hv, fun q1 q2 k hk3 => ?_⟩
      have e8 : oV σ2 o = tg := by unfold oV; rw [h8, if_pos rfl]; exact nI_clamp (by omega)
      have e9 : oF σ2 o = oF σ o := by unfold oF; rw [hk 9 (by decide) (by decide)]
      rw [e8] at q2
      rw [e9] at q1
      rw [h10]
      exact (i4 c v k q1 (by omega) hk3).1
  · have hw := hp.2.2 (fun q => c (i1.symm.trans q))
    rw [M_convert_f c]
    refine ⟨⟨fun q => absurd q (by simp), fun _ => hp.1.2 (fun q => c (i1.symm.trans q))⟩, _, hw, ?_⟩
    show RX G L _ ad (mS (cvV σ o (oV σ o) (tg - oV σ o)).2 8 o (nI (oV σ o)))
    generalize hs2 : mS (cvV σ o (oV σ o) (tg - oV σ o)).2 8 o (nI (oV σ o)) = σ2
    have hk : ∀ k, k ≠ 8 → k ≠ 10 → σ2 k = σ k := fun k n8 n10 => by rw [← hs2, mS_k n8]; funext j; exact cvV_k _ n10 j
    have h8 : ∀ j, σ2 8 j = if j = o then nI (oV σ o) else σ 8 j := fun j => by rw [← hs2, mk1, cvV_k _ (by decide)]
    have h10 : ∀ j, σ2 10 j = (cvV σ o (oV σ o) (tg - oV σ o)).2 10 j := fun j => by rw [← hs2, mS_k (by decide)]
    have k0 := hk 0 (by decide) (by decide)
    have k6 := hk 6 (by decide) (by decide)
    have eO : nO σ2 = nO σ := by unfold nO; rw [k0]
    have eC : nC σ2 = nC σ := by unfold nC; rw [k0]
    refine RX_obj (o := o) hI hR (fun k q1 q2 => hk k (by omega) (by omega)) (by rw [k0]) (fun x h => h) (fun a b c d h => rfl) (fun a b c d h n0 n3 hn => hO a b c d h (by omega)) (fun u hu q1 q2 => ⟨eO ▸ q1, by rw [← k6]; exact q2⟩) (fun u hu => ⟨by rw [hk 7 (by decide) (by decide)], by rw [h8, if_neg hu], by rw [hk 9 (by decide) (by decide)]⟩) (fun u v k hu hv hk3 => by rw [h10]; exact i3 _ (by unfold cel; omega)) (fun n => absurd ⟨ho, hx⟩ n) (fun n => absurd ⟨ho, hx⟩ n) ?_ ?_ (fun _ _ => ⟨?_, ?_, fun v hv => ?_⟩)
    · rw [hO 0 0 0 0 ⟨rfl, rfl, rfl⟩ (by omega), (rx0 hR).2]
      show _ = _
      rw [eC, eO]
    · rw [hO 3 0 0 0 ⟨rfl, rfl, rfl⟩ (by omega)]
      obtain ⟨g, _, q1, q2⟩ := rx3 hR
      exact ⟨g, q1, fun u hu => by rw [k6]; exact q2 u (eO ▸ hu)⟩
    · rw [hO 13 o 0 0 l13 (by omega), (rx13 hR ho hx).2]
      show _ = _
      have e8 : oV σ2 o = oV σ o := by show cN (σ2 8 o) = _; rw [h8, if_pos rfl]; exact nI_clamp (by omega)
      rw [e8]
      unfold oC oF
      rw [hk 7 (by decide) (by decide), hk 9 (by decide) (by decide)]
    · rw [hO 14 o 0 0 ⟨⟨ho, hx⟩, rfl, rfl⟩ (by omega)]
      exact ⟨g14, f14, e14⟩
    · refine ⟨X.2 v, hp_row 8 hinj hv, fun q1 q2 k hk3 => ?_⟩
      have e8 : oV σ2 o = oV σ o := by show cN (σ2 8 o) = _; rw [h8, if_pos rfl]; exact nI_clamp (by omega)
      have e9 : oF σ2 o = oF σ o := by unfold oF; rw [hk 9 (by decide) (by decide)]
      rw [e8] at q2
      rw [e9] at q1
      rw [h10, i3 (cel o v k) (by unfold cel; omega)]
      exact i2 v k q1 q2 hk3
end RXO
