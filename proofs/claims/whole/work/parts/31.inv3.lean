/-- an object that lives has moved: its version and its values -/
theorem iv_obj {σ σ2 : Sg} (hI : Iv σ) {o : Nat} (hk : ∀ k, k ≠ 8 → k ≠ 10 → σ2 k = σ k) (h8 : ∀ u, u ≠ o → σ2 8 u = σ 8 u) (h10 : ∀ u v k, u ≠ o → v < 8 → k < 8 → σ2 10 (64 * u + 8 * v + k) = σ 10 (64 * u + 8 * v + k)) (hO : o < nO σ → σ 6 o = 1 → InvO σ2 o) : Iv σ2 := by
  have k0 := hk 0 (by decide) (by decide)
  have k1 := hk 1 (by decide) (by decide)
  have eC : nC σ2 = nC σ := by unfold nC; rw [k0]
  have eO : nO σ2 = nO σ := by unfold nO; rw [k0]
  have eK : ∀ u, cnt σ2 u = cnt σ u := fun u => by unfold cnt; rw [k1]
  have eoF : ∀ j, oF σ2 j = oF σ j := fun j => by unfold oF; rw [hk 9 (by decide) (by decide)]
  have efC : ∀ j, fC σ2 j = fC σ j := fun j => by unfold fC; rw [hk 3 (by decide) (by decide)]
  have efV : ∀ j, fV σ2 j = fV σ j := fun j => by unfold fV; rw [hk 4 (by decide) (by decide)]
  have eD : ∀ u, dN σ2 u = dN σ u := fun u => by unfold dN; rw [hk 2 (by decide) (by decide)]
  obtain ⟨⟨⟨a1, a2⟩, ⟨b1, b2⟩, c, d, e, g⟩, hF2⟩ := hI
  refine ⟨⟨⟨by rw [k0, eC]; exact a1, by rw [eC]; exact a2⟩, ⟨by rw [k0, eO]; exact b1, by rw [eO]; exact b2⟩, fun t ht => InvC_same (fun i _ => by rw [k1]) (c t (eC ▸ ht)), fun th hth => by rw [eD, hk 2 (by decide) (by decide)]; exact d th hth, fun j hj hl => ?_, fun u hu => ?_⟩, fr_of hF2 k0 (fun j _ => by rw [k1])⟩
  · have hl2 : liv σ j := by unfold liv at hl ⊢; rw [eD] at hl; exact hl
    obtain ⟨⟨f1, f2⟩, ⟨f3, f4⟩, f5⟩ := e j hj hl2
    unfold InvF
    rw [efC, efV, eC, eO, eK, hk 3 (by decide) (by decide), hk 4 (by decide) (by decide), hk 5 (by decide) (by decide), hk 6 (by decide) (by decide), hk 7 (by decide) (by decide)]
    exact ⟨⟨f1, f2⟩, ⟨f3, f4⟩, fun o ho hp => ⟨(f5 o ho hp).1, fun hx => by rw [eoF]; exact (f5 o ho hp).2 hx⟩⟩
  · rw [eO] at hu
    rw [hk 6 (by decide) (by decide)]
    refine ⟨(g u hu).1, fun hx => ?_⟩
    by_cases q : u = o
    · subst q; exact hO hu hx
    · have hO := (g u hu).2 hx
      exact InvO_same (by rw [eC]; exact Nat.le_refl _) (by rw [hk 7 (by decide) (by decide)]) (h8 u q) (by rw [hk 9 (by decide) (by decide)]) (by rw [eK]; exact Nat.le_refl _) (fun v k hv hk3 => h10 u v k q hv hk3) (c _ hO.1.2).1.2.2 hO
theorem iv_convert {σ : Sg} (hI : Iv σ) {o tg : Nat} (ho : o < nO σ) (hx : σ 6 o = 1) (h1 : oV σ o ≤ tg) (h2 : tg < cnt σ (oC σ o)) : Iv (M_convert σ o tg).2 := by
  obtain ⟨⟨o1, o2⟩, ⟨o3, o4⟩, ⟨o5, o6⟩, o7⟩ := (hI.1.2.2.2.2.2 o ho).2 hx
  have hk8 := (hI.1.2.2.1 _ o2).1.2.2
  obtain ⟨_, _, i3, i4⟩ := conv_rel hI.1 ho hx (rv := fun v k => σ 10 (cel o v k)) (fun v _ _ _ k _ => rfl) (show tg < 8 by omega) (tg - oV σ o) (by omega)
  by_cases c : (cvV σ o (oV σ o) (tg - oV σ o)).1 = true
  · rw [M_convert_t c]
    show Iv (mS (cvV σ o (oV σ o) (tg - oV σ o)).2 8 o (nI tg))
    generalize hs2 : mS (cvV σ o (oV σ o) (tg - oV σ o)).2 8 o (nI tg) = σ2
    have hk : ∀ k, k ≠ 8 → k ≠ 10 → σ2 k = σ k := fun k n8 n10 => by rw [← hs2, mS_k n8]; funext j; exact cvV_k _ n10 j
    have h8 : ∀ j, σ2 8 j = if j = o then nI tg else σ 8 j := fun j => by rw [← hs2, mk1, cvV_k _ (by decide)]
    have h10 : ∀ j, σ2 10 j = (cvV σ o (oV σ o) (tg - oV σ o)).2 10 j := fun j => by rw [← hs2, mS_k (by decide)]
    have eC : nC σ2 = nC σ := by unfold nC; rw [hk 0 (by decide) (by decide)]
    have e7 : oC σ2 o = oC σ o := by unfold oC; rw [hk 7 (by decide) (by decide)]
    have e8 : oV σ2 o = tg := by unfold oV; rw [h8, if_pos rfl]; exact nI_clamp (by omega)
    have e9 : oF σ2 o = oF σ o := by unfold oF; rw [hk 9 (by decide) (by decide)]
    have eK : ∀ u, cnt σ2 u = cnt σ u := fun u => by unfold cnt; rw [hk 1 (by decide) (by decide)]
    refine iv_obj hI (o := o) hk (fun u hu => by rw [h8, if_neg hu]) (fun u v k hu hv hk3 => by rw [h10]; exact i3 _ (by omega)) (fun _ _ => ?_)
    unfold InvO
    rw [e7, e8, e9, eC, eK, hk 7 (by decide) (by decide), h8, if_pos rfl, hk 9 (by decide) (by decide)]
    exact ⟨⟨o1, o2⟩, ⟨rfl, h2⟩, ⟨o5, by omega⟩, fun v k q1 q2 hk3 => by rw [h10]; exact (i4 c v k q1 (by omega) hk3).2⟩
  · rw [M_convert_f c]
    show Iv (mS (cvV σ o (oV σ o) (tg - oV σ o)).2 8 o (nI (oV σ o)))
    generalize hs2 : mS (cvV σ o (oV σ o) (tg - oV σ o)).2 8 o (nI (oV σ o)) = σ2
    have hk : ∀ k, k ≠ 8 → k ≠ 10 → σ2 k = σ k := fun k n8 n10 => by rw [← hs2, mS_k n8]; funext j; exact cvV_k _ n10 j
    have h8 : ∀ j, σ2 8 j = if j = o then nI (oV σ o) else σ 8 j := fun j => by rw [← hs2, mk1, cvV_k _ (by decide)]
    have h10 : ∀ j, σ2 10 j = (cvV σ o (oV σ o) (tg - oV σ o)).2 10 j := fun j => by rw [← hs2, mS_k (by decide)]
    have eC : nC σ2 = nC σ := by unfold nC; rw [hk 0 (by decide) (by decide)]
    have e7 : oC σ2 o = oC σ o := by unfold oC; rw [hk 7 (by decide) (by decide)]
    have e8 : oV σ2 o = oV σ o := by show cN (σ2 8 o) = _; rw [h8, if_pos rfl]; exact nI_clamp (by omega)
    have e9 : oF σ2 o = oF σ o := by unfold oF; rw [hk 9 (by decide) (by decide)]
    have eK : ∀ u, cnt σ2 u = cnt σ u := fun u => by unfold cnt; rw [hk 1 (by decide) (by decide)]
    refine iv_obj hI (o := o) hk (fun u hu => by rw [h8, if_neg hu]) (fun u v k hu hv hk3 => by rw [h10]; exact i3 _ (by omega)) (fun _ _ => ?_)
    unfold InvO
    rw [e7, e8, e9, eC, eK, hk 7 (by decide) (by decide), h8, if_pos rfl, hk 9 (by decide) (by decide)]
    exact ⟨⟨o1, o2⟩, ⟨rfl, o4⟩, ⟨o5, o6⟩, fun v k q1 q2 hk3 => by rw [h10, i3 _ (by omega)]; exact o7 v k q1 q2 hk3⟩
theorem iv_acc {σ : Sg} (hI : Iv σ) {th o : Nat} (hth : th < 4) (h0 : ¬ dN σ th = 0) (ho : o < nO σ) (hx : σ 6 o = 1) (field : Int32) : Iv (M_acc σ th o field).2 := by
  have hd8 := (hI.1.2.2.2.1 th hth).2
  have hfr := topF_lt hth hd8
  have hlv := topF_liv h0 hd8
  obtain ⟨⟨g1, g2⟩, ⟨g3, g4⟩, -⟩ := hI.1.2.2.2.2.1 (topF σ th) hfr hlv
  obtain ⟨⟨o1, o2⟩, ⟨o3, o4⟩, ⟨o5, o6⟩, -⟩ := (hI.1.2.2.2.2.2 o ho).2 hx
  rw [M_acc]
  refine iv_wif (fun e7 => iv_wif (fun _ => iv_wif (fun _ => hI) (fun hle => iv_wif (fun hlt => iv_wif (fun _ => hI) (fun _ => ?_)) (fun hn => ?_))) (fun _ => hI)) (fun _ => hI)
  · have hc := iv_convert hI ho hx (tg := fV σ (topF σ th)) (by omega) (by rw [← e7]; exact g4)
    refine iv_wif (fun c => ?_) (fun _ => hc)
    generalize hs : (M_convert σ o (fV σ (topF σ th))).2 = s at *
    have hk : ∀ k, k ≠ 8 → k ≠ 10 → s k = σ k := fun k n8 n10 => by rw [← hs]; funext j; exact M_convert_k n8 n10 j
    show Iv (pinS s (topF σ th) o)
    refine iv_pin hc hfr ?_ ?_ (fun _ => ⟨?_, ?_⟩)
    · unfold liv dN at hlv ⊢; rw [hk 2 (by decide) (by decide)]; exact hlv
    · unfold nO at ho ⊢; rw [hk 0 (by decide) (by decide)]; exact ho
    · rw [hk 7 (by decide) (by decide), hk 3 (by decide) (by decide), o1, g1, e7]
    · unfold oF fV; rw [hk 9 (by decide) (by decide), hk 4 (by decide) (by decide)]; show oF σ o ≤ fV σ (topF σ th); omega
  · show Iv (pinS σ (topF σ th) o)
    exact iv_pin hI hfr hlv ho (fun _ => ⟨by rw [o1, g1, e7], by omega⟩)
theorem iv_access {σ : Sg} (hI : Iv σ) (thread object field : Int32) : Iv (M_access σ thread object field).2 := by
  rw [M_access]
  refine iv_wif (fun h1 => iv_wif (fun _ => hI) (fun h0 => iv_wif (fun h2 => ?_) (fun _ => hI))) (fun _ => hI)
  obtain ⟨th, hth, rfl⟩ := h1
  obtain ⟨o, ⟨ho, hx⟩, rfl⟩ := h2
  have hO24 := hI.1.2.1.2
  have ct : cN (nI th) = th := nI_clamp (by omega)
  have co : cN (nI o) = o := nI_clamp (by omega)
  rw [ct] at h0
  rw [ct, co]
  exact iv_acc hI hth h0 ho hx field
theorem iv_read {σ : Sg} (hI : Iv σ) (thread object field : Int32) : Iv (M_read σ thread object field).2 := by
  rw [M_read]
  exact iv_wif (fun _ => iv_access hI thread object field) (fun _ => iv_access hI thread object field)
theorem acc_k {σ : Sg} {thread object field : Int32} {k : Nat} (h5 : k ≠ 5) (h8 : k ≠ 8) (h10 : k ≠ 10) : (M_access σ thread object field).2 k = σ k := by
  have W : ∀ {P : Prop} {a b : Int32 × Sg}, a.2 k = σ k → b.2 k = σ k → (wif P a b).2 k = σ k := fun {P a b} ha hb => by
    by_cases h : P
    · rw [wif_t h]; exact ha
    · rw [wif_f h]; exact hb
  have C : ∀ o tg, (M_convert σ o tg).2 k = σ k := fun o tg => by funext j; exact M_convert_k h8 h10 j
  rw [M_access]
  refine W (W rfl (W ?_ rfl)) rfl
  rw [M_acc]
  refine W (W (W rfl (W (W rfl (W ?_ (C _ _))) ?_)) rfl) rfl
  · show pinS _ _ _ k = _
    rw [pinS, mS_k h5, C]
  · show pinS _ _ _ k = _
    rw [pinS, mS_k h5]
theorem iv_write {σ : Sg} (hI : Iv σ) (thread object field value : Int32) : Iv (M_write σ thread object field value).2 := by
  have hA := iv_access hI thread object field
  rw [M_write]
  refine iv_wif (fun hv => iv_wif (fun h0 => ?_) (fun _ => hA)) (fun _ => hI)
  obtain ⟨th, o, f, ⟨hth, rfl⟩, ⟨ho, hx, rfl⟩, ⟨hf, rfl⟩, -, -, -, -, -⟩ := acc_ok hI.1 h0
  have hO24 := hI.1.2.1.2
  have co : cN (nI o) = o := nI_clamp (by omega)
  have cf : cN (nI f) = f := nI_clamp (by omega)
  rw [co, cf]
  have hx2 : (M_access σ (nI th) (nI o) (nI f)).2 6 o = 1 := by rw [acc_k (by decide) (by decide) (by decide)]; exact hx
  have ho2 : o < nO (M_access σ (nI th) (nI o) (nI f)).2 := by unfold nO; rw [acc_k (by decide) (by decide) (by decide)]; exact ho
  generalize (M_access σ (nI th) (nI o) (nI f)).2 = s at *
  show Iv (mS s 10 (cel o (oV s o) f) value)
  obtain ⟨⟨o1, o2⟩, ⟨o3, o4⟩, ⟨o5, o6⟩, o7⟩ := (hA.1.2.2.2.2.2 o ho2).2 hx2
  have hk8 := (hA.1.2.2.1 _ o2).1.2.2
  have hk : ∀ k, k ≠ 10 → mS s 10 (cel o (oV s o) f) value k = s k := fun k n10 => mS_k n10
  refine iv_obj hA (o := o) (fun k _ h => hk k h) (fun u _ => by rw [hk 8 (by decide)]) (fun u v k hu hv2 hk3 => by rw [mk1, if_neg (by unfold cel; omega)]) (fun _ _ => ?_)
  have e7 : oC (mS s 10 (cel o (oV s o) f) value) o = oC s o := by unfold oC; rw [hk 7 (by decide)]
  have e8 : oV (mS s 10 (cel o (oV s o) f) value) o = oV s o := by show cN _ = _; rw [hk 8 (by decide)]; rfl
  have e9 : oF (mS s 10 (cel o (oV s o) f) value) o = oF s o := by unfold oF; rw [hk 9 (by decide)]
  have eC : nC (mS s 10 (cel o (oV s o) f) value) = nC s := by unfold nC; rw [hk 0 (by decide)]
  have eK : ∀ u, cnt (mS s 10 (cel o (oV s o) f) value) u = cnt s u := fun u => by unfold cnt; rw [hk 1 (by decide)]
  unfold InvO
  rw [e7, e8, e9, eC, eK, hk 7 (by decide), hk 8 (by decide), hk 9 (by decide)]
  refine ⟨⟨o1, o2⟩, ⟨o3, o4⟩, ⟨o5, o6⟩, fun v k q1 q2 hk3 => ?_⟩
  rw [mk1]
  by_cases c : 64 * o + 8 * v + k = cel o (oV s o) f
  · rw [if_pos c]; exact hv
  · rw [if_neg c]; exact o7 v k q1 q2 hk3
