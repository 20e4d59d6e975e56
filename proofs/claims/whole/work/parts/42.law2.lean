section LAW
variable {p : Program} {l : Launch} {e : Env} {s : State} {m : MethodId} {below : List Frame} {meth : Method} {c : Code} {G : hG} {b Ln : Nat} {xs : Nat → Int32}
abbrev lwA (s : State) : Nat → Prop := fun q => s.heap.size ≤ q
def lwI (p : Program) (l : Launch) (e : Env) (s : State) (m : MethodId) (below : List Frame) (meth : Method) (c : Code) (G : hG) (b : Nat) (k : Nat) : Prop := ∀ (σ : Sg) (adm : Nat → Nat) (L : List Nat) (f : Nat → va_E) (ad : xAd) (H : Heap) (locs : List Loc) (ls : Array Slot), Iv σ → RX G L f ad σ → hH G (lwA s) s.heap s (mW G adm σ ++ va_pl L f) H locs → lv_has ls 4 [(0, .ref b), (1, .ref (ad 0 0 0 0)), (2, .ref (adm 0)), (3, .int (nI (5 * k)))] → W p l e room_1 s m #[Value.ref b] below meth c H locs (30 + 20 * k) (2900 + 90 * k) (lw_Z below #[Value.ref b] s) (F0 m 18 ls [])

theorem iv_currentVersion {σ : Sg} (hI : Iv σ) (a1 : Int32) : Iv (M_currentVersion σ a1).2 := by
  rw [M_currentVersion]
  repeat first | exact hI | refine iv_wif (fun _ => ?_) (fun _ => ?_)

theorem iv_fields {σ : Sg} (hI : Iv σ) (a1 a2 : Int32) : Iv (M_fields σ a1 a2).2 := by
  rw [M_fields]
  repeat first | exact hI | refine iv_wif (fun _ => ?_) (fun _ => ?_)

theorem iv_stagedFields {σ : Sg} (hI : Iv σ) (a1 : Int32) : Iv (M_stagedFields σ a1).2 := by
  rw [M_stagedFields]
  repeat first | exact hI | refine iv_wif (fun _ => ?_) (fun _ => ?_)

theorem iv_depth {σ : Sg} (hI : Iv σ) (a1 : Int32) : Iv (M_depth σ a1).2 := by
  rw [M_depth]
  repeat first | exact hI | refine iv_wif (fun _ => ?_) (fun _ => ?_)

theorem iv_frameClass {σ : Sg} (hI : Iv σ) (a1 a2 : Int32) : Iv (M_frameClass σ a1 a2).2 := by
  rw [M_frameClass]
  repeat first | exact hI | refine iv_wif (fun _ => ?_) (fun _ => ?_)

theorem iv_frameVersion {σ : Sg} (hI : Iv σ) (a1 a2 : Int32) : Iv (M_frameVersion σ a1 a2).2 := by
  rw [M_frameVersion]
  repeat first | exact hI | refine iv_wif (fun _ => ?_) (fun _ => ?_)

theorem iv_oldFrames {σ : Sg} (hI : Iv σ) (a1 : Int32) : Iv (M_oldFrames σ a1).2 := by
  rw [M_oldFrames]
  repeat first | exact hI | refine iv_wif (fun _ => ?_) (fun _ => ?_)

theorem iv_objectVersion {σ : Sg} (hI : Iv σ) (a1 : Int32) : Iv (M_objectVersion σ a1).2 := by
  rw [M_objectVersion]
  repeat first | exact hI | refine iv_wif (fun _ => ?_) (fun _ => ?_)

theorem iv_conversions {σ : Sg} (hI : Iv σ) (a1 : Int32) : Iv (M_conversions σ a1).2 := by
  rw [M_conversions]
  repeat first | exact hI | refine iv_wif (fun _ => ?_) (fun _ => ?_)

theorem iv_peek {σ : Sg} (hI : Iv σ) (a1 a2 : Int32) : Iv (M_peek σ a1 a2).2 := by
  rw [M_peek]
  repeat first | exact hI | refine iv_wif (fun _ => ?_) (fun _ => ?_)

theorem iv_pinnedBy {σ : Sg} (hI : Iv σ) (a1 : Int32) : Iv (M_pinnedBy σ a1).2 := by
  rw [M_pinnedBy]
  repeat first | exact hI | refine iv_wif (fun _ => ?_) (fun _ => ?_)

theorem iv_outdated {σ : Sg} (hI : Iv σ) (a1 : Int32) : Iv (M_outdated σ a1).2 := by
  rw [M_outdated]
  repeat first | exact hI | refine iv_wif (fun _ => ?_) (fun _ => ?_)

theorem law_tail (hLn : Ln ≤ 2560) (C0 : lw_At p s m meth c b Ln xs) {k : Nat} (hk : 5 * k + 5 ≤ Ln) (nx : lwI p l e s m below meth c G b (k + 1)) {σ : Sg} {adm : Nat → Nat} {L : List Nat} {f : Nat → va_E} {ad : xAd} {H : Heap} {locs : List Loc} {ls : Array Slot} {h0 m0 nc ns : Nat} (hI : Iv σ) (hR : RX G L f ad σ) (h0e : ad 0 0 0 0 = h0) (h1e : adm 0 = m0) (X : hH G (lwA s) s.heap s (mW G adm σ ++ va_pl L f) H locs) (hl : lv_has ls 4 [(0, .ref b), (1, .ref h0), (2, .ref m0), (3, .int (nI (5 * k)))]) (hc : nc ≤ 30 + 20 * (k + 1)) (hs : ns ≤ 2900 + 90 * (k + 1)) : W p l e room_1 s m #[Value.ref b] below meth c H locs nc ns (lw_Z below #[Value.ref b] s) (F0 m 994 ls []) := by
  obtain ⟨hx, hb, hr, hml, hown, hts0, hX, hbl, hlocks, hgv⟩ := C0
  have hts : ∀ w ∈ wsL_law, w.before #[Value.ref b] s = true := fun w h => hts0 w (wsL_law_in w h)
  have S : CallFix p m c cL_law 4 s #[Value.ref b] wsL_law RL := ⟨hx, hb, hml, hown, hts⟩
  have hbA : ¬ lwA s b := Nat.not_le.mpr hbl
  subst h0e
  subst h1e
  refine lv_iinc (v := nI (5 * (k + 1))) (lv' := [(3, .int (nI (5 * (k + 1)))), (0, .ref b), (1, .ref (ad 0 0 0 0)), (2, .ref (adm 0))]) hx hb dL_law_994 hl (k := 3) rfl (nI_add (5 * k) 5) (by decide) rfl (fun ls hl => ?_)
  refine lv_goto (tgt := 18) hx hb dL_law_997 (by decide) ?_
  refine W.widen (k := 30 + 20 * (k + 1)) (n := 2900 + 90 * (k + 1)) hc hs ?_
  exact nx σ adm L f ad H locs ls hI hR X (lv_sub hl [1, 2, 3, 0] rfl)

set_option maxRecDepth 100000 in
set_option maxHeartbeats 4000000 in
theorem law_c0 (hLn : Ln ≤ 2560) (C0 : lw_At p s m meth c b Ln xs) {k : Nat} (hk : 5 * k + 5 ≤ Ln) (nx : lwI p l e s m below meth c G b (k + 1)) {σ : Sg} {adm : Nat → Nat} {L : List Nat} {f : Nat → va_E} {ad : xAd} {H : Heap} {locs : List Loc} {ls : Array Slot} (hI : Iv σ) (hR : RX G L f ad σ) (X : hH G (lwA s) s.heap s (mW G adm σ ++ va_pl L f) H locs) (hl : lv_has ls 4 [(0, .ref b), (1, .ref (ad 0 0 0 0)), (2, .ref (adm 0)), (3, .int (nI (5 * k)))]) : W p l e room_1 s m #[Value.ref b] below meth c H locs (30 + 20 * k) (2900 + 90 * k) (lw_Z below #[Value.ref b] s) (F0 m 160 ls []) := by
  have C0' := C0
  obtain ⟨hx, hb, hr, hml, hown, hts0, hX, hbl, hlocks, hgv⟩ := C0
  have hts : ∀ w ∈ wsL_law, w.before #[Value.ref b] s = true := fun w h => hts0 w (wsL_law_in w h)
  have S : CallFix p m c cL_law 4 s #[Value.ref b] wsL_law RL := ⟨hx, hb, hml, hown, hts⟩
  have hbA : ¬ lwA s b := Nat.not_le.mpr hbl
  refine lv_aload_n hx hb dL_law_160 rfl (lv_at hl 1 rfl) ?_
  refine lv_aload_n hx hb dL_law_161 rfl (lv_at hl 0 rfl) ?_
  refine lv_iload_n hx hb dL_law_162 rfl (lv_at hl 3 rfl) ?_
  refine lv_iconst (v := 1) hx hb dL_law_163 (by decide) ?_
  refine lv_iadd hx hb dL_law_164 ?_
  refine hx_ei (show _ = nI (5 * k + 1) from nI_add (5 * k) 1) ?_
  refine va_sld hx hb hX hbl hbA X.2.2.2.1 (vp_in_nI (by omega) (by omega)) dL_law_165 ?_
  refine hx_ei (show _ = xs (5 * k + 1) from by rw [nI_clamp (by omega)]) ?_
  refine hx_VPi (As := [.int (xs (5 * k + 1))]) (rest := []) S X (c_X6_addClass l G L f ad σ (xs (5 * k + 1)) hI.1 hR hI.2) gL_law_X6_addClass rfl (n := 1) (by decide +kernel) rfl ⟨(Nat.le_of_ble_eq_true rfl), (Nat.le_of_ble_eq_true rfl)⟩ (xp_recv (ci := 6) X.right rfl (rx0 hR).1 (rx0 hR).2) hl.1 rfl (Nat.le_of_ble_eq_true rfl) dL_law_166 ⟨by show 30 + 20 * k + 19 ≤ 600000; omega, by show 2900 + 90 * k + 85 ≤ 7302250; omega⟩ (fun r wd1 H locs hp X => ?_)
  obtain ⟨rfl, L2, f2, ad2, rfl, hR2, h02⟩ := hp
  refine lv_aload_n hx hb dL_law_169 rfl (lv_at hl 2 rfl) ?_
  refine lv_aload_n hx hb dL_law_170 rfl (lv_at hl 0 rfl) ?_
  refine lv_iload_n hx hb dL_law_171 rfl (lv_at hl 3 rfl) ?_
  refine lv_iconst (v := 1) hx hb dL_law_172 (by decide) ?_
  refine lv_iadd hx hb dL_law_173 ?_
  refine hx_ei (show _ = nI (5 * k + 1) from nI_add (5 * k) 1) ?_
  refine va_sld hx hb hX hbl hbA X.2.2.2.1 (vp_in_nI (by omega) (by omega)) dL_law_174 ?_
  refine hx_ei (show _ = xs (5 * k + 1) from by rw [nI_clamp (by omega)]) ?_
  refine hx_VQi (As := [.int (xs (5 * k + 1))]) (rest := [.int (M_addClass σ (xs (5 * k + 1))).1]) S X (c_X7_addClass l G adm σ (xs (5 * k + 1)) hI.1) gL_law_X7_addClass rfl (n := 1) (by decide +kernel) rfl ⟨(Nat.le_of_ble_eq_true rfl), (Nat.le_of_ble_eq_true rfl)⟩ (hx_recvL (q0 := 0) (ci := 7) X rfl rfl) hl.1 rfl (Nat.le_of_ble_eq_true rfl) dL_law_175 ⟨by show 30 + 20 * k + 19 + 0 ≤ 600000; omega, by show 2900 + 90 * k + 85 + 0 ≤ 7302250; omega⟩ (fun r wd1 H locs hp X => ?_)
  obtain ⟨rfl, rfl⟩ := hp
  refine lv_icmp_eq (tgt := 994) hx hb dL_law_178 (by decide) (fun _ => ?_) (fun q => absurd rfl q)
  exact law_tail hLn C0' hk nx (iv_addClass hI (xs (5 * k + 1))) hR2 h02 rfl X hl (by show 30 + 20 * k + 19 + 0 ≤ 30 + 20 * (k + 1); omega) (by show 2900 + 90 * k + 85 + 0 ≤ 2900 + 90 * (k + 1); omega)

set_option maxRecDepth 100000 in
set_option maxHeartbeats 4000000 in
theorem law_c1 (hLn : Ln ≤ 2560) (C0 : lw_At p s m meth c b Ln xs) {k : Nat} (hk : 5 * k + 5 ≤ Ln) (nx : lwI p l e s m below meth c G b (k + 1)) {σ : Sg} {adm : Nat → Nat} {L : List Nat} {f : Nat → va_E} {ad : xAd} {H : Heap} {locs : List Loc} {ls : Array Slot} (hI : Iv σ) (hR : RX G L f ad σ) (X : hH G (lwA s) s.heap s (mW G adm σ ++ va_pl L f) H locs) (hl : lv_has ls 4 [(0, .ref b), (1, .ref (ad 0 0 0 0)), (2, .ref (adm 0)), (3, .int (nI (5 * k)))]) : W p l e room_1 s m #[Value.ref b] below meth c H locs (30 + 20 * k) (2900 + 90 * k) (lw_Z below #[Value.ref b] s) (F0 m 183 ls []) := by
  have C0' := C0
  obtain ⟨hx, hb, hr, hml, hown, hts0, hX, hbl, hlocks, hgv⟩ := C0
  have hts : ∀ w ∈ wsL_law, w.before #[Value.ref b] s = true := fun w h => hts0 w (wsL_law_in w h)
  have S : CallFix p m c cL_law 4 s #[Value.ref b] wsL_law RL := ⟨hx, hb, hml, hown, hts⟩
  have hbA : ¬ lwA s b := Nat.not_le.mpr hbl
  refine lv_aload_n hx hb dL_law_183 rfl (lv_at hl 1 rfl) ?_
  refine lv_aload_n hx hb dL_law_184 rfl (lv_at hl 0 rfl) ?_
  refine lv_iload_n hx hb dL_law_185 rfl (lv_at hl 3 rfl) ?_
  refine lv_iconst (v := 1) hx hb dL_law_186 (by decide) ?_
  refine lv_iadd hx hb dL_law_187 ?_
  refine hx_ei (show _ = nI (5 * k + 1) from nI_add (5 * k) 1) ?_
  refine va_sld hx hb hX hbl hbA X.2.2.2.1 (vp_in_nI (by omega) (by omega)) dL_law_188 ?_
  refine hx_ei (show _ = xs (5 * k + 1) from by rw [nI_clamp (by omega)]) ?_
  refine hx_VPi (As := [.int (xs (5 * k + 1))]) (rest := []) S X (c_X6_currentVersion l G L f ad σ (xs (5 * k + 1)) hI.1 hR) gL_law_X6_currentVersion rfl (n := 1) (by decide +kernel) rfl ⟨(Nat.le_of_ble_eq_true rfl), (Nat.le_of_ble_eq_true rfl)⟩ (xp_recv (ci := 6) X.right rfl (rx0 hR).1 (rx0 hR).2) hl.1 rfl (Nat.le_of_ble_eq_true rfl) dL_law_189 ⟨by show 30 + 20 * k + 0 ≤ 600000; omega, by show 2900 + 90 * k + 0 ≤ 7302250; omega⟩ (fun r wd1 H locs hp X => ?_)
  obtain ⟨rfl, L2, f2, ad2, rfl, hR2, h02⟩ := hp
  refine lv_aload_n hx hb dL_law_192 rfl (lv_at hl 2 rfl) ?_
  refine lv_aload_n hx hb dL_law_193 rfl (lv_at hl 0 rfl) ?_
  refine lv_iload_n hx hb dL_law_194 rfl (lv_at hl 3 rfl) ?_
  refine lv_iconst (v := 1) hx hb dL_law_195 (by decide) ?_
  refine lv_iadd hx hb dL_law_196 ?_
  refine hx_ei (show _ = nI (5 * k + 1) from nI_add (5 * k) 1) ?_
  refine va_sld hx hb hX hbl hbA X.2.2.2.1 (vp_in_nI (by omega) (by omega)) dL_law_197 ?_
  refine hx_ei (show _ = xs (5 * k + 1) from by rw [nI_clamp (by omega)]) ?_
  refine hx_VQi (As := [.int (xs (5 * k + 1))]) (rest := [.int (M_currentVersion σ (xs (5 * k + 1))).1]) S X (c_X7_currentVersion l G adm σ (xs (5 * k + 1)) hI.1) gL_law_X7_currentVersion rfl (n := 1) (by decide +kernel) rfl ⟨(Nat.le_of_ble_eq_true rfl), (Nat.le_of_ble_eq_true rfl)⟩ (hx_recvL (q0 := 0) (ci := 7) X rfl rfl) hl.1 rfl (Nat.le_of_ble_eq_true rfl) dL_law_198 ⟨by show 30 + 20 * k + 0 + 0 ≤ 600000; omega, by show 2900 + 90 * k + 0 + 0 ≤ 7302250; omega⟩ (fun r wd1 H locs hp X => ?_)
  obtain ⟨rfl, rfl⟩ := hp
  refine lv_icmp_eq (tgt := 994) hx hb dL_law_201 (by decide) (fun _ => ?_) (fun q => absurd rfl q)
  exact law_tail hLn C0' hk nx (iv_currentVersion hI (xs (5 * k + 1))) hR2 h02 rfl X hl (by show 30 + 20 * k + 0 + 0 ≤ 30 + 20 * (k + 1); omega) (by show 2900 + 90 * k + 0 + 0 ≤ 2900 + 90 * (k + 1); omega)

set_option maxRecDepth 100000 in
set_option maxHeartbeats 4000000 in
theorem law_c2 (hLn : Ln ≤ 2560) (C0 : lw_At p s m meth c b Ln xs) {k : Nat} (hk : 5 * k + 5 ≤ Ln) (nx : lwI p l e s m below meth c G b (k + 1)) {σ : Sg} {adm : Nat → Nat} {L : List Nat} {f : Nat → va_E} {ad : xAd} {H : Heap} {locs : List Loc} {ls : Array Slot} (hI : Iv σ) (hR : RX G L f ad σ) (X : hH G (lwA s) s.heap s (mW G adm σ ++ va_pl L f) H locs) (hl : lv_has ls 4 [(0, .ref b), (1, .ref (ad 0 0 0 0)), (2, .ref (adm 0)), (3, .int (nI (5 * k)))]) : W p l e room_1 s m #[Value.ref b] below meth c H locs (30 + 20 * k) (2900 + 90 * k) (lw_Z below #[Value.ref b] s) (F0 m 206 ls []) := by
  have C0' := C0
  obtain ⟨hx, hb, hr, hml, hown, hts0, hX, hbl, hlocks, hgv⟩ := C0
  have hts : ∀ w ∈ wsL_law, w.before #[Value.ref b] s = true := fun w h => hts0 w (wsL_law_in w h)
  have S : CallFix p m c cL_law 4 s #[Value.ref b] wsL_law RL := ⟨hx, hb, hml, hown, hts⟩
  have hbA : ¬ lwA s b := Nat.not_le.mpr hbl
  refine lv_aload_n hx hb dL_law_206 rfl (lv_at hl 1 rfl) ?_
  refine lv_aload_n hx hb dL_law_207 rfl (lv_at hl 0 rfl) ?_
  refine lv_iload_n hx hb dL_law_208 rfl (lv_at hl 3 rfl) ?_
  refine lv_iconst (v := 1) hx hb dL_law_209 (by decide) ?_
  refine lv_iadd hx hb dL_law_210 ?_
  refine hx_ei (show _ = nI (5 * k + 1) from nI_add (5 * k) 1) ?_
  refine va_sld hx hb hX hbl hbA X.2.2.2.1 (vp_in_nI (by omega) (by omega)) dL_law_211 ?_
  refine hx_ei (show _ = xs (5 * k + 1) from by rw [nI_clamp (by omega)]) ?_
  refine lv_aload_n hx hb dL_law_212 rfl (lv_at hl 0 rfl) ?_
  refine lv_iload_n hx hb dL_law_213 rfl (lv_at hl 3 rfl) ?_
  refine lv_iconst (v := 2) hx hb dL_law_214 (by decide) ?_
  refine lv_iadd hx hb dL_law_215 ?_
  refine hx_ei (show _ = nI (5 * k + 2) from nI_add (5 * k) 2) ?_
  refine va_sld hx hb hX hbl hbA X.2.2.2.1 (vp_in_nI (by omega) (by omega)) dL_law_216 ?_
  refine hx_ei (show _ = xs (5 * k + 2) from by rw [nI_clamp (by omega)]) ?_
  refine hx_VPi (As := [.int (xs (5 * k + 1)), .int (xs (5 * k + 2))]) (rest := []) S X (c_X6_fields l G L f ad σ (xs (5 * k + 1)) (xs (5 * k + 2)) hI.1 hR) gL_law_X6_fields rfl (n := 2) (by decide +kernel) rfl ⟨(Nat.le_of_ble_eq_true rfl), (Nat.le_of_ble_eq_true rfl)⟩ (xp_recv (ci := 6) X.right rfl (rx0 hR).1 (rx0 hR).2) hl.1 rfl (Nat.le_of_ble_eq_true rfl) dL_law_217 ⟨by show 30 + 20 * k + 0 ≤ 600000; omega, by show 2900 + 90 * k + 0 ≤ 7302250; omega⟩ (fun r wd1 H locs hp X => ?_)
  obtain ⟨rfl, L2, f2, ad2, rfl, hR2, h02⟩ := hp
  refine lv_aload_n hx hb dL_law_220 rfl (lv_at hl 2 rfl) ?_
  refine lv_aload_n hx hb dL_law_221 rfl (lv_at hl 0 rfl) ?_
  refine lv_iload_n hx hb dL_law_222 rfl (lv_at hl 3 rfl) ?_
  refine lv_iconst (v := 1) hx hb dL_law_223 (by decide) ?_
  refine lv_iadd hx hb dL_law_224 ?_
  refine hx_ei (show _ = nI (5 * k + 1) from nI_add (5 * k) 1) ?_
  refine va_sld hx hb hX hbl hbA X.2.2.2.1 (vp_in_nI (by omega) (by omega)) dL_law_225 ?_
  refine hx_ei (show _ = xs (5 * k + 1) from by rw [nI_clamp (by omega)]) ?_
  refine lv_aload_n hx hb dL_law_226 rfl (lv_at hl 0 rfl) ?_
  refine lv_iload_n hx hb dL_law_227 rfl (lv_at hl 3 rfl) ?_
  refine lv_iconst (v := 2) hx hb dL_law_228 (by decide) ?_
  refine lv_iadd hx hb dL_law_229 ?_
  refine hx_ei (show _ = nI (5 * k + 2) from nI_add (5 * k) 2) ?_
  refine va_sld hx hb hX hbl hbA X.2.2.2.1 (vp_in_nI (by omega) (by omega)) dL_law_230 ?_
  refine hx_ei (show _ = xs (5 * k + 2) from by rw [nI_clamp (by omega)]) ?_
  refine hx_VQi (As := [.int (xs (5 * k + 1)), .int (xs (5 * k + 2))]) (rest := [.int (M_fields σ (xs (5 * k + 1)) (xs (5 * k + 2))).1]) S X (c_X7_fields l G adm σ (xs (5 * k + 1)) (xs (5 * k + 2)) hI.1) gL_law_X7_fields rfl (n := 2) (by decide +kernel) rfl ⟨(Nat.le_of_ble_eq_true rfl), (Nat.le_of_ble_eq_true rfl)⟩ (hx_recvL (q0 := 0) (ci := 7) X rfl rfl) hl.1 rfl (Nat.le_of_ble_eq_true rfl) dL_law_231 ⟨by show 30 + 20 * k + 0 + 0 ≤ 600000; omega, by show 2900 + 90 * k + 0 + 0 ≤ 7302250; omega⟩ (fun r wd1 H locs hp X => ?_)
  obtain ⟨rfl, rfl⟩ := hp
  refine lv_icmp_eq (tgt := 994) hx hb dL_law_234 (by decide) (fun _ => ?_) (fun q => absurd rfl q)
  exact law_tail hLn C0' hk nx (iv_fields hI (xs (5 * k + 1)) (xs (5 * k + 2))) hR2 h02 rfl X hl (by show 30 + 20 * k + 0 + 0 ≤ 30 + 20 * (k + 1); omega) (by show 2900 + 90 * k + 0 + 0 ≤ 2900 + 90 * (k + 1); omega)

set_option maxRecDepth 100000 in
set_option maxHeartbeats 4000000 in
theorem law_c3 (hLn : Ln ≤ 2560) (C0 : lw_At p s m meth c b Ln xs) {k : Nat} (hk : 5 * k + 5 ≤ Ln) (nx : lwI p l e s m below meth c G b (k + 1)) {σ : Sg} {adm : Nat → Nat} {L : List Nat} {f : Nat → va_E} {ad : xAd} {H : Heap} {locs : List Loc} {ls : Array Slot} (hI : Iv σ) (hR : RX G L f ad σ) (X : hH G (lwA s) s.heap s (mW G adm σ ++ va_pl L f) H locs) (hl : lv_has ls 4 [(0, .ref b), (1, .ref (ad 0 0 0 0)), (2, .ref (adm 0)), (3, .int (nI (5 * k)))]) : W p l e room_1 s m #[Value.ref b] below meth c H locs (30 + 20 * k) (2900 + 90 * k) (lw_Z below #[Value.ref b] s) (F0 m 239 ls []) := by
  have C0' := C0
  obtain ⟨hx, hb, hr, hml, hown, hts0, hX, hbl, hlocks, hgv⟩ := C0
  have hts : ∀ w ∈ wsL_law, w.before #[Value.ref b] s = true := fun w h => hts0 w (wsL_law_in w h)
  have S : CallFix p m c cL_law 4 s #[Value.ref b] wsL_law RL := ⟨hx, hb, hml, hown, hts⟩
  have hbA : ¬ lwA s b := Nat.not_le.mpr hbl
  refine lv_aload_n hx hb dL_law_239 rfl (lv_at hl 1 rfl) ?_
  refine lv_aload_n hx hb dL_law_240 rfl (lv_at hl 0 rfl) ?_
  refine lv_iload_n hx hb dL_law_241 rfl (lv_at hl 3 rfl) ?_
  refine lv_iconst (v := 1) hx hb dL_law_242 (by decide) ?_
  refine lv_iadd hx hb dL_law_243 ?_
  refine hx_ei (show _ = nI (5 * k + 1) from nI_add (5 * k) 1) ?_
  refine va_sld hx hb hX hbl hbA X.2.2.2.1 (vp_in_nI (by omega) (by omega)) dL_law_244 ?_
  refine hx_ei (show _ = xs (5 * k + 1) from by rw [nI_clamp (by omega)]) ?_
  refine hx_VPi (As := [.int (xs (5 * k + 1))]) (rest := []) S X (c_X6_stage l G L f ad σ (xs (5 * k + 1)) hI.1 hR) gL_law_X6_stage rfl (n := 1) (by decide +kernel) rfl ⟨(Nat.le_of_ble_eq_true rfl), (Nat.le_of_ble_eq_true rfl)⟩ (xp_recv (ci := 6) X.right rfl (rx0 hR).1 (rx0 hR).2) hl.1 rfl (Nat.le_of_ble_eq_true rfl) dL_law_245 ⟨by show 30 + 20 * k + 0 ≤ 600000; omega, by show 2900 + 90 * k + 0 ≤ 7302250; omega⟩ (fun r wd1 H locs hp X => ?_)
  obtain ⟨rfl, L2, f2, ad2, rfl, hR2, h02⟩ := hp
  refine lv_aload_n hx hb dL_law_248 rfl (lv_at hl 2 rfl) ?_
  refine lv_aload_n hx hb dL_law_249 rfl (lv_at hl 0 rfl) ?_
  refine lv_iload_n hx hb dL_law_250 rfl (lv_at hl 3 rfl) ?_
  refine lv_iconst (v := 1) hx hb dL_law_251 (by decide) ?_
  refine lv_iadd hx hb dL_law_252 ?_
  refine hx_ei (show _ = nI (5 * k + 1) from nI_add (5 * k) 1) ?_
  refine va_sld hx hb hX hbl hbA X.2.2.2.1 (vp_in_nI (by omega) (by omega)) dL_law_253 ?_
  refine hx_ei (show _ = xs (5 * k + 1) from by rw [nI_clamp (by omega)]) ?_
  refine hx_VQi (As := [.int (xs (5 * k + 1))]) (rest := [.int (M_stage σ (xs (5 * k + 1))).1]) S X (c_X7_stage l G adm σ (xs (5 * k + 1)) hI.1) gL_law_X7_stage rfl (n := 1) (by decide +kernel) rfl ⟨(Nat.le_of_ble_eq_true rfl), (Nat.le_of_ble_eq_true rfl)⟩ (hx_recvL (q0 := 0) (ci := 7) X rfl rfl) hl.1 rfl (Nat.le_of_ble_eq_true rfl) dL_law_254 ⟨by show 30 + 20 * k + 0 + 0 ≤ 600000; omega, by show 2900 + 90 * k + 0 + 0 ≤ 7302250; omega⟩ (fun r wd1 H locs hp X => ?_)
  obtain ⟨rfl, rfl⟩ := hp
  refine lv_icmp_eq (tgt := 994) hx hb dL_law_257 (by decide) (fun _ => ?_) (fun q => absurd rfl q)
  exact law_tail hLn C0' hk nx (iv_stage hI (xs (5 * k + 1))) hR2 h02 rfl X hl (by show 30 + 20 * k + 0 + 0 ≤ 30 + 20 * (k + 1); omega) (by show 2900 + 90 * k + 0 + 0 ≤ 2900 + 90 * (k + 1); omega)

set_option maxRecDepth 100000 in
set_option maxHeartbeats 4000000 in
theorem law_c4 (hLn : Ln ≤ 2560) (C0 : lw_At p s m meth c b Ln xs) {k : Nat} (hk : 5 * k + 5 ≤ Ln) (nx : lwI p l e s m below meth c G b (k + 1)) {σ : Sg} {adm : Nat → Nat} {L : List Nat} {f : Nat → va_E} {ad : xAd} {H : Heap} {locs : List Loc} {ls : Array Slot} (hI : Iv σ) (hR : RX G L f ad σ) (X : hH G (lwA s) s.heap s (mW G adm σ ++ va_pl L f) H locs) (hl : lv_has ls 4 [(0, .ref b), (1, .ref (ad 0 0 0 0)), (2, .ref (adm 0)), (3, .int (nI (5 * k)))]) : W p l e room_1 s m #[Value.ref b] below meth c H locs (30 + 20 * k) (2900 + 90 * k) (lw_Z below #[Value.ref b] s) (F0 m 262 ls []) := by
  have C0' := C0
  obtain ⟨hx, hb, hr, hml, hown, hts0, hX, hbl, hlocks, hgv⟩ := C0
  have hts : ∀ w ∈ wsL_law, w.before #[Value.ref b] s = true := fun w h => hts0 w (wsL_law_in w h)
  have S : CallFix p m c cL_law 4 s #[Value.ref b] wsL_law RL := ⟨hx, hb, hml, hown, hts⟩
  have hbA : ¬ lwA s b := Nat.not_le.mpr hbl
  refine lv_aload_n hx hb dL_law_262 rfl (lv_at hl 1 rfl) ?_
  refine lv_aload_n hx hb dL_law_263 rfl (lv_at hl 0 rfl) ?_
  refine lv_iload_n hx hb dL_law_264 rfl (lv_at hl 3 rfl) ?_
  refine lv_iconst (v := 1) hx hb dL_law_265 (by decide) ?_
  refine lv_iadd hx hb dL_law_266 ?_
  refine hx_ei (show _ = nI (5 * k + 1) from nI_add (5 * k) 1) ?_
  refine va_sld hx hb hX hbl hbA X.2.2.2.1 (vp_in_nI (by omega) (by omega)) dL_law_267 ?_
  refine hx_ei (show _ = xs (5 * k + 1) from by rw [nI_clamp (by omega)]) ?_
  refine hx_VPi (As := [.int (xs (5 * k + 1))]) (rest := []) S X (c_X6_stagedFields l G L f ad σ (xs (5 * k + 1)) hI.1 hR) gL_law_X6_stagedFields rfl (n := 1) (by decide +kernel) rfl ⟨(Nat.le_of_ble_eq_true rfl), (Nat.le_of_ble_eq_true rfl)⟩ (xp_recv (ci := 6) X.right rfl (rx0 hR).1 (rx0 hR).2) hl.1 rfl (Nat.le_of_ble_eq_true rfl) dL_law_268 ⟨by show 30 + 20 * k + 0 ≤ 600000; omega, by show 2900 + 90 * k + 0 ≤ 7302250; omega⟩ (fun r wd1 H locs hp X => ?_)
  obtain ⟨rfl, L2, f2, ad2, rfl, hR2, h02⟩ := hp
  refine lv_aload_n hx hb dL_law_271 rfl (lv_at hl 2 rfl) ?_
  refine lv_aload_n hx hb dL_law_272 rfl (lv_at hl 0 rfl) ?_
  refine lv_iload_n hx hb dL_law_273 rfl (lv_at hl 3 rfl) ?_
  refine lv_iconst (v := 1) hx hb dL_law_274 (by decide) ?_
  refine lv_iadd hx hb dL_law_275 ?_
  refine hx_ei (show _ = nI (5 * k + 1) from nI_add (5 * k) 1) ?_
  refine va_sld hx hb hX hbl hbA X.2.2.2.1 (vp_in_nI (by omega) (by omega)) dL_law_276 ?_
  refine hx_ei (show _ = xs (5 * k + 1) from by rw [nI_clamp (by omega)]) ?_
  refine hx_VQi (As := [.int (xs (5 * k + 1))]) (rest := [.int (M_stagedFields σ (xs (5 * k + 1))).1]) S X (c_X7_stagedFields l G adm σ (xs (5 * k + 1)) hI.1) gL_law_X7_stagedFields rfl (n := 1) (by decide +kernel) rfl ⟨(Nat.le_of_ble_eq_true rfl), (Nat.le_of_ble_eq_true rfl)⟩ (hx_recvL (q0 := 0) (ci := 7) X rfl rfl) hl.1 rfl (Nat.le_of_ble_eq_true rfl) dL_law_277 ⟨by show 30 + 20 * k + 0 + 0 ≤ 600000; omega, by show 2900 + 90 * k + 0 + 0 ≤ 7302250; omega⟩ (fun r wd1 H locs hp X => ?_)
  obtain ⟨rfl, rfl⟩ := hp
  refine lv_icmp_eq (tgt := 994) hx hb dL_law_280 (by decide) (fun _ => ?_) (fun q => absurd rfl q)
  exact law_tail hLn C0' hk nx (iv_stagedFields hI (xs (5 * k + 1))) hR2 h02 rfl X hl (by show 30 + 20 * k + 0 + 0 ≤ 30 + 20 * (k + 1); omega) (by show 2900 + 90 * k + 0 + 0 ≤ 2900 + 90 * (k + 1); omega)

set_option maxRecDepth 100000 in
set_option maxHeartbeats 4000000 in
theorem law_c5 (hLn : Ln ≤ 2560) (C0 : lw_At p s m meth c b Ln xs) {k : Nat} (hk : 5 * k + 5 ≤ Ln) (nx : lwI p l e s m below meth c G b (k + 1)) {σ : Sg} {adm : Nat → Nat} {L : List Nat} {f : Nat → va_E} {ad : xAd} {H : Heap} {locs : List Loc} {ls : Array Slot} (hI : Iv σ) (hR : RX G L f ad σ) (X : hH G (lwA s) s.heap s (mW G adm σ ++ va_pl L f) H locs) (hl : lv_has ls 4 [(0, .ref b), (1, .ref (ad 0 0 0 0)), (2, .ref (adm 0)), (3, .int (nI (5 * k)))]) : W p l e room_1 s m #[Value.ref b] below meth c H locs (30 + 20 * k) (2900 + 90 * k) (lw_Z below #[Value.ref b] s) (F0 m 285 ls []) := by
  have C0' := C0
  obtain ⟨hx, hb, hr, hml, hown, hts0, hX, hbl, hlocks, hgv⟩ := C0
  have hts : ∀ w ∈ wsL_law, w.before #[Value.ref b] s = true := fun w h => hts0 w (wsL_law_in w h)
  have S : CallFix p m c cL_law 4 s #[Value.ref b] wsL_law RL := ⟨hx, hb, hml, hown, hts⟩
  have hbA : ¬ lwA s b := Nat.not_le.mpr hbl
  refine lv_aload_n hx hb dL_law_285 rfl (lv_at hl 1 rfl) ?_
  refine lv_aload_n hx hb dL_law_286 rfl (lv_at hl 0 rfl) ?_
  refine lv_iload_n hx hb dL_law_287 rfl (lv_at hl 3 rfl) ?_
  refine lv_iconst (v := 1) hx hb dL_law_288 (by decide) ?_
  refine lv_iadd hx hb dL_law_289 ?_
  refine hx_ei (show _ = nI (5 * k + 1) from nI_add (5 * k) 1) ?_
  refine va_sld hx hb hX hbl hbA X.2.2.2.1 (vp_in_nI (by omega) (by omega)) dL_law_290 ?_
  refine hx_ei (show _ = xs (5 * k + 1) from by rw [nI_clamp (by omega)]) ?_
  refine lv_aload_n hx hb dL_law_291 rfl (lv_at hl 0 rfl) ?_
  refine lv_iload_n hx hb dL_law_292 rfl (lv_at hl 3 rfl) ?_
  refine lv_iconst (v := 2) hx hb dL_law_293 (by decide) ?_
  refine lv_iadd hx hb dL_law_294 ?_
  refine hx_ei (show _ = nI (5 * k + 2) from nI_add (5 * k) 2) ?_
  refine va_sld hx hb hX hbl hbA X.2.2.2.1 (vp_in_nI (by omega) (by omega)) dL_law_295 ?_
  refine hx_ei (show _ = xs (5 * k + 2) from by rw [nI_clamp (by omega)]) ?_
  refine lv_aload_n hx hb dL_law_296 rfl (lv_at hl 0 rfl) ?_
  refine lv_iload_n hx hb dL_law_297 rfl (lv_at hl 3 rfl) ?_
  refine lv_iconst (v := 3) hx hb dL_law_298 (by decide) ?_
  refine lv_iadd hx hb dL_law_299 ?_
  refine hx_ei (show _ = nI (5 * k + 3) from nI_add (5 * k) 3) ?_
  refine va_sld hx hb hX hbl hbA X.2.2.2.1 (vp_in_nI (by omega) (by omega)) dL_law_300 ?_
  refine hx_ei (show _ = xs (5 * k + 3) from by rw [nI_clamp (by omega)]) ?_
  refine hx_VPi (As := [.int (xs (5 * k + 1)), .int (xs (5 * k + 2)), .int (xs (5 * k + 3))]) (rest := []) S X (c_X6_addField l G L f ad σ (xs (5 * k + 1)) (xs (5 * k + 2)) (xs (5 * k + 3)) hI.1 hR) gL_law_X6_addField rfl (n := 3) (by decide +kernel) rfl ⟨(Nat.le_of_ble_eq_true rfl), (Nat.le_of_ble_eq_true rfl)⟩ (xp_recv (ci := 6) X.right rfl (rx0 hR).1 (rx0 hR).2) hl.1 rfl (Nat.le_of_ble_eq_true rfl) dL_law_301 ⟨by show 30 + 20 * k + 1 ≤ 600000; omega, by show 2900 + 90 * k + 3 ≤ 7302250; omega⟩ (fun r wd1 H locs hp X => ?_)
  obtain ⟨rfl, L2, f2, ad2, rfl, hR2, h02⟩ := hp
  refine lv_aload_n hx hb dL_law_304 rfl (lv_at hl 2 rfl) ?_
  refine lv_aload_n hx hb dL_law_305 rfl (lv_at hl 0 rfl) ?_
  refine lv_iload_n hx hb dL_law_306 rfl (lv_at hl 3 rfl) ?_
  refine lv_iconst (v := 1) hx hb dL_law_307 (by decide) ?_
  refine lv_iadd hx hb dL_law_308 ?_
  refine hx_ei (show _ = nI (5 * k + 1) from nI_add (5 * k) 1) ?_
  refine va_sld hx hb hX hbl hbA X.2.2.2.1 (vp_in_nI (by omega) (by omega)) dL_law_309 ?_
  refine hx_ei (show _ = xs (5 * k + 1) from by rw [nI_clamp (by omega)]) ?_
  refine lv_aload_n hx hb dL_law_310 rfl (lv_at hl 0 rfl) ?_
  refine lv_iload_n hx hb dL_law_311 rfl (lv_at hl 3 rfl) ?_
  refine lv_iconst (v := 2) hx hb dL_law_312 (by decide) ?_
  refine lv_iadd hx hb dL_law_313 ?_
  refine hx_ei (show _ = nI (5 * k + 2) from nI_add (5 * k) 2) ?_
  refine va_sld hx hb hX hbl hbA X.2.2.2.1 (vp_in_nI (by omega) (by omega)) dL_law_314 ?_
  refine hx_ei (show _ = xs (5 * k + 2) from by rw [nI_clamp (by omega)]) ?_
  refine lv_aload_n hx hb dL_law_315 rfl (lv_at hl 0 rfl) ?_
  refine lv_iload_n hx hb dL_law_316 rfl (lv_at hl 3 rfl) ?_
  refine lv_iconst (v := 3) hx hb dL_law_317 (by decide) ?_
  refine lv_iadd hx hb dL_law_318 ?_
  refine hx_ei (show _ = nI (5 * k + 3) from nI_add (5 * k) 3) ?_
  refine va_sld hx hb hX hbl hbA X.2.2.2.1 (vp_in_nI (by omega) (by omega)) dL_law_319 ?_
  refine hx_ei (show _ = xs (5 * k + 3) from by rw [nI_clamp (by omega)]) ?_
  refine hx_VQi (As := [.int (xs (5 * k + 1)), .int (xs (5 * k + 2)), .int (xs (5 * k + 3))]) (rest := [.int (M_addField σ (xs (5 * k + 1)) (xs (5 * k + 2)) (xs (5 * k + 3))).1]) S X (c_X7_addField l G adm σ (xs (5 * k + 1)) (xs (5 * k + 2)) (xs (5 * k + 3)) hI.1) gL_law_X7_addField rfl (n := 3) (by decide +kernel) rfl ⟨(Nat.le_of_ble_eq_true rfl), (Nat.le_of_ble_eq_true rfl)⟩ (hx_recvL (q0 := 0) (ci := 7) X rfl rfl) hl.1 rfl (Nat.le_of_ble_eq_true rfl) dL_law_320 ⟨by show 30 + 20 * k + 1 + 0 ≤ 600000; omega, by show 2900 + 90 * k + 3 + 0 ≤ 7302250; omega⟩ (fun r wd1 H locs hp X => ?_)
  obtain ⟨rfl, rfl⟩ := hp
  refine lv_icmp_eq (tgt := 994) hx hb dL_law_323 (by decide) (fun _ => ?_) (fun q => absurd rfl q)
  exact law_tail hLn C0' hk nx (iv_addField hI (xs (5 * k + 1)) (xs (5 * k + 2)) (xs (5 * k + 3))) hR2 h02 rfl X hl (by show 30 + 20 * k + 1 + 0 ≤ 30 + 20 * (k + 1); omega) (by show 2900 + 90 * k + 3 + 0 ≤ 2900 + 90 * (k + 1); omega)

set_option maxRecDepth 100000 in
set_option maxHeartbeats 4000000 in
theorem law_c6 (hLn : Ln ≤ 2560) (C0 : lw_At p s m meth c b Ln xs) {k : Nat} (hk : 5 * k + 5 ≤ Ln) (nx : lwI p l e s m below meth c G b (k + 1)) {σ : Sg} {adm : Nat → Nat} {L : List Nat} {f : Nat → va_E} {ad : xAd} {H : Heap} {locs : List Loc} {ls : Array Slot} (hI : Iv σ) (hR : RX G L f ad σ) (X : hH G (lwA s) s.heap s (mW G adm σ ++ va_pl L f) H locs) (hl : lv_has ls 4 [(0, .ref b), (1, .ref (ad 0 0 0 0)), (2, .ref (adm 0)), (3, .int (nI (5 * k)))]) : W p l e room_1 s m #[Value.ref b] below meth c H locs (30 + 20 * k) (2900 + 90 * k) (lw_Z below #[Value.ref b] s) (F0 m 328 ls []) := by
  have C0' := C0
  obtain ⟨hx, hb, hr, hml, hown, hts0, hX, hbl, hlocks, hgv⟩ := C0
  have hts : ∀ w ∈ wsL_law, w.before #[Value.ref b] s = true := fun w h => hts0 w (wsL_law_in w h)
  have S : CallFix p m c cL_law 4 s #[Value.ref b] wsL_law RL := ⟨hx, hb, hml, hown, hts⟩
  have hbA : ¬ lwA s b := Nat.not_le.mpr hbl
  refine lv_aload_n hx hb dL_law_328 rfl (lv_at hl 1 rfl) ?_
  refine lv_aload_n hx hb dL_law_329 rfl (lv_at hl 0 rfl) ?_
  refine lv_iload_n hx hb dL_law_330 rfl (lv_at hl 3 rfl) ?_
  refine lv_iconst (v := 1) hx hb dL_law_331 (by decide) ?_
  refine lv_iadd hx hb dL_law_332 ?_
  refine hx_ei (show _ = nI (5 * k + 1) from nI_add (5 * k) 1) ?_
  refine va_sld hx hb hX hbl hbA X.2.2.2.1 (vp_in_nI (by omega) (by omega)) dL_law_333 ?_
  refine hx_ei (show _ = xs (5 * k + 1) from by rw [nI_clamp (by omega)]) ?_
  refine lv_aload_n hx hb dL_law_334 rfl (lv_at hl 0 rfl) ?_
  refine lv_iload_n hx hb dL_law_335 rfl (lv_at hl 3 rfl) ?_
  refine lv_iconst (v := 2) hx hb dL_law_336 (by decide) ?_
  refine lv_iadd hx hb dL_law_337 ?_
  refine hx_ei (show _ = nI (5 * k + 2) from nI_add (5 * k) 2) ?_
  refine va_sld hx hb hX hbl hbA X.2.2.2.1 (vp_in_nI (by omega) (by omega)) dL_law_338 ?_
  refine hx_ei (show _ = xs (5 * k + 2) from by rw [nI_clamp (by omega)]) ?_
  refine hx_VPi (As := [.int (xs (5 * k + 1)), .int (xs (5 * k + 2))]) (rest := []) S X (c_X6_dropField l G L f ad σ (xs (5 * k + 1)) (xs (5 * k + 2)) hI.1 hR) gL_law_X6_dropField rfl (n := 2) (by decide +kernel) rfl ⟨(Nat.le_of_ble_eq_true rfl), (Nat.le_of_ble_eq_true rfl)⟩ (xp_recv (ci := 6) X.right rfl (rx0 hR).1 (rx0 hR).2) hl.1 rfl (Nat.le_of_ble_eq_true rfl) dL_law_339 ⟨by show 30 + 20 * k + 1 ≤ 600000; omega, by show 2900 + 90 * k + 3 ≤ 7302250; omega⟩ (fun r wd1 H locs hp X => ?_)
  obtain ⟨rfl, L2, f2, ad2, rfl, hR2, h02⟩ := hp
  refine lv_aload_n hx hb dL_law_342 rfl (lv_at hl 2 rfl) ?_
  refine lv_aload_n hx hb dL_law_343 rfl (lv_at hl 0 rfl) ?_
  refine lv_iload_n hx hb dL_law_344 rfl (lv_at hl 3 rfl) ?_
  refine lv_iconst (v := 1) hx hb dL_law_345 (by decide) ?_
  refine lv_iadd hx hb dL_law_346 ?_
  refine hx_ei (show _ = nI (5 * k + 1) from nI_add (5 * k) 1) ?_
  refine va_sld hx hb hX hbl hbA X.2.2.2.1 (vp_in_nI (by omega) (by omega)) dL_law_347 ?_
  refine hx_ei (show _ = xs (5 * k + 1) from by rw [nI_clamp (by omega)]) ?_
  refine lv_aload_n hx hb dL_law_348 rfl (lv_at hl 0 rfl) ?_
  refine lv_iload_n hx hb dL_law_349 rfl (lv_at hl 3 rfl) ?_
  refine lv_iconst (v := 2) hx hb dL_law_350 (by decide) ?_
  refine lv_iadd hx hb dL_law_351 ?_
  refine hx_ei (show _ = nI (5 * k + 2) from nI_add (5 * k) 2) ?_
  refine va_sld hx hb hX hbl hbA X.2.2.2.1 (vp_in_nI (by omega) (by omega)) dL_law_352 ?_
  refine hx_ei (show _ = xs (5 * k + 2) from by rw [nI_clamp (by omega)]) ?_
  refine hx_VQi (As := [.int (xs (5 * k + 1)), .int (xs (5 * k + 2))]) (rest := [.int (M_dropField σ (xs (5 * k + 1)) (xs (5 * k + 2))).1]) S X (c_X7_dropField l G adm σ (xs (5 * k + 1)) (xs (5 * k + 2)) hI.1) gL_law_X7_dropField rfl (n := 2) (by decide +kernel) rfl ⟨(Nat.le_of_ble_eq_true rfl), (Nat.le_of_ble_eq_true rfl)⟩ (hx_recvL (q0 := 0) (ci := 7) X rfl rfl) hl.1 rfl (Nat.le_of_ble_eq_true rfl) dL_law_353 ⟨by show 30 + 20 * k + 1 + 0 ≤ 600000; omega, by show 2900 + 90 * k + 3 + 0 ≤ 7302250; omega⟩ (fun r wd1 H locs hp X => ?_)
  obtain ⟨rfl, rfl⟩ := hp
  refine lv_icmp_eq (tgt := 994) hx hb dL_law_356 (by decide) (fun _ => ?_) (fun q => absurd rfl q)
  exact law_tail hLn C0' hk nx (iv_dropField hI (xs (5 * k + 1)) (xs (5 * k + 2))) hR2 h02 rfl X hl (by show 30 + 20 * k + 1 + 0 ≤ 30 + 20 * (k + 1); omega) (by show 2900 + 90 * k + 3 + 0 ≤ 2900 + 90 * (k + 1); omega)

set_option maxRecDepth 100000 in
set_option maxHeartbeats 4000000 in
theorem law_c7 (hLn : Ln ≤ 2560) (C0 : lw_At p s m meth c b Ln xs) {k : Nat} (hk : 5 * k + 5 ≤ Ln) (nx : lwI p l e s m below meth c G b (k + 1)) {σ : Sg} {adm : Nat → Nat} {L : List Nat} {f : Nat → va_E} {ad : xAd} {H : Heap} {locs : List Loc} {ls : Array Slot} (hI : Iv σ) (hR : RX G L f ad σ) (X : hH G (lwA s) s.heap s (mW G adm σ ++ va_pl L f) H locs) (hl : lv_has ls 4 [(0, .ref b), (1, .ref (ad 0 0 0 0)), (2, .ref (adm 0)), (3, .int (nI (5 * k)))]) : W p l e room_1 s m #[Value.ref b] below meth c H locs (30 + 20 * k) (2900 + 90 * k) (lw_Z below #[Value.ref b] s) (F0 m 361 ls []) := by
  have C0' := C0
  obtain ⟨hx, hb, hr, hml, hown, hts0, hX, hbl, hlocks, hgv⟩ := C0
  have hts : ∀ w ∈ wsL_law, w.before #[Value.ref b] s = true := fun w h => hts0 w (wsL_law_in w h)
  have S : CallFix p m c cL_law 4 s #[Value.ref b] wsL_law RL := ⟨hx, hb, hml, hown, hts⟩
  have hbA : ¬ lwA s b := Nat.not_le.mpr hbl
  refine lv_aload_n hx hb dL_law_361 rfl (lv_at hl 1 rfl) ?_
  refine lv_aload_n hx hb dL_law_362 rfl (lv_at hl 0 rfl) ?_
  refine lv_iload_n hx hb dL_law_363 rfl (lv_at hl 3 rfl) ?_
  refine lv_iconst (v := 1) hx hb dL_law_364 (by decide) ?_
  refine lv_iadd hx hb dL_law_365 ?_
  refine hx_ei (show _ = nI (5 * k + 1) from nI_add (5 * k) 1) ?_
  refine va_sld hx hb hX hbl hbA X.2.2.2.1 (vp_in_nI (by omega) (by omega)) dL_law_366 ?_
  refine hx_ei (show _ = xs (5 * k + 1) from by rw [nI_clamp (by omega)]) ?_
  refine lv_aload_n hx hb dL_law_367 rfl (lv_at hl 0 rfl) ?_
  refine lv_iload_n hx hb dL_law_368 rfl (lv_at hl 3 rfl) ?_
  refine lv_iconst (v := 2) hx hb dL_law_369 (by decide) ?_
  refine lv_iadd hx hb dL_law_370 ?_
  refine hx_ei (show _ = nI (5 * k + 2) from nI_add (5 * k) 2) ?_
  refine va_sld hx hb hX hbl hbA X.2.2.2.1 (vp_in_nI (by omega) (by omega)) dL_law_371 ?_
  refine hx_ei (show _ = xs (5 * k + 2) from by rw [nI_clamp (by omega)]) ?_
  refine lv_aload_n hx hb dL_law_372 rfl (lv_at hl 0 rfl) ?_
  refine lv_iload_n hx hb dL_law_373 rfl (lv_at hl 3 rfl) ?_
  refine lv_iconst (v := 3) hx hb dL_law_374 (by decide) ?_
  refine lv_iadd hx hb dL_law_375 ?_
  refine hx_ei (show _ = nI (5 * k + 3) from nI_add (5 * k) 3) ?_
  refine va_sld hx hb hX hbl hbA X.2.2.2.1 (vp_in_nI (by omega) (by omega)) dL_law_376 ?_
  refine hx_ei (show _ = xs (5 * k + 3) from by rw [nI_clamp (by omega)]) ?_
  refine hx_VPi (As := [.int (xs (5 * k + 1)), .int (xs (5 * k + 2)), .int (xs (5 * k + 3))]) (rest := []) S X (c_X6_renameField l G L f ad σ (xs (5 * k + 1)) (xs (5 * k + 2)) (xs (5 * k + 3)) hI.1 hR) gL_law_X6_renameField rfl (n := 3) (by decide +kernel) rfl ⟨(Nat.le_of_ble_eq_true rfl), (Nat.le_of_ble_eq_true rfl)⟩ (xp_recv (ci := 6) X.right rfl (rx0 hR).1 (rx0 hR).2) hl.1 rfl (Nat.le_of_ble_eq_true rfl) dL_law_377 ⟨by show 30 + 20 * k + 1 ≤ 600000; omega, by show 2900 + 90 * k + 3 ≤ 7302250; omega⟩ (fun r wd1 H locs hp X => ?_)
  obtain ⟨rfl, L2, f2, ad2, rfl, hR2, h02⟩ := hp
  refine lv_aload_n hx hb dL_law_380 rfl (lv_at hl 2 rfl) ?_
  refine lv_aload_n hx hb dL_law_381 rfl (lv_at hl 0 rfl) ?_
  refine lv_iload_n hx hb dL_law_382 rfl (lv_at hl 3 rfl) ?_
  refine lv_iconst (v := 1) hx hb dL_law_383 (by decide) ?_
  refine lv_iadd hx hb dL_law_384 ?_
  refine hx_ei (show _ = nI (5 * k + 1) from nI_add (5 * k) 1) ?_
  refine va_sld hx hb hX hbl hbA X.2.2.2.1 (vp_in_nI (by omega) (by omega)) dL_law_385 ?_
  refine hx_ei (show _ = xs (5 * k + 1) from by rw [nI_clamp (by omega)]) ?_
  refine lv_aload_n hx hb dL_law_386 rfl (lv_at hl 0 rfl) ?_
  refine lv_iload_n hx hb dL_law_387 rfl (lv_at hl 3 rfl) ?_
  refine lv_iconst (v := 2) hx hb dL_law_388 (by decide) ?_
  refine lv_iadd hx hb dL_law_389 ?_
  refine hx_ei (show _ = nI (5 * k + 2) from nI_add (5 * k) 2) ?_
  refine va_sld hx hb hX hbl hbA X.2.2.2.1 (vp_in_nI (by omega) (by omega)) dL_law_390 ?_
  refine hx_ei (show _ = xs (5 * k + 2) from by rw [nI_clamp (by omega)]) ?_
  refine lv_aload_n hx hb dL_law_391 rfl (lv_at hl 0 rfl) ?_
  refine lv_iload_n hx hb dL_law_392 rfl (lv_at hl 3 rfl) ?_
  refine lv_iconst (v := 3) hx hb dL_law_393 (by decide) ?_
  refine lv_iadd hx hb dL_law_394 ?_
  refine hx_ei (show _ = nI (5 * k + 3) from nI_add (5 * k) 3) ?_
  refine va_sld hx hb hX hbl hbA X.2.2.2.1 (vp_in_nI (by omega) (by omega)) dL_law_395 ?_
  refine hx_ei (show _ = xs (5 * k + 3) from by rw [nI_clamp (by omega)]) ?_
  refine hx_VQi (As := [.int (xs (5 * k + 1)), .int (xs (5 * k + 2)), .int (xs (5 * k + 3))]) (rest := [.int (M_renameField σ (xs (5 * k + 1)) (xs (5 * k + 2)) (xs (5 * k + 3))).1]) S X (c_X7_renameField l G adm σ (xs (5 * k + 1)) (xs (5 * k + 2)) (xs (5 * k + 3)) hI.1) gL_law_X7_renameField rfl (n := 3) (by decide +kernel) rfl ⟨(Nat.le_of_ble_eq_true rfl), (Nat.le_of_ble_eq_true rfl)⟩ (hx_recvL (q0 := 0) (ci := 7) X rfl rfl) hl.1 rfl (Nat.le_of_ble_eq_true rfl) dL_law_396 ⟨by show 30 + 20 * k + 1 + 0 ≤ 600000; omega, by show 2900 + 90 * k + 3 + 0 ≤ 7302250; omega⟩ (fun r wd1 H locs hp X => ?_)
  obtain ⟨rfl, rfl⟩ := hp
  refine lv_icmp_eq (tgt := 994) hx hb dL_law_399 (by decide) (fun _ => ?_) (fun q => absurd rfl q)
  exact law_tail hLn C0' hk nx (iv_renameField hI (xs (5 * k + 1)) (xs (5 * k + 2)) (xs (5 * k + 3))) hR2 h02 rfl X hl (by show 30 + 20 * k + 1 + 0 ≤ 30 + 20 * (k + 1); omega) (by show 2900 + 90 * k + 3 + 0 ≤ 2900 + 90 * (k + 1); omega)

set_option maxRecDepth 100000 in
set_option maxHeartbeats 4000000 in
theorem law_c8 (hLn : Ln ≤ 2560) (C0 : lw_At p s m meth c b Ln xs) {k : Nat} (hk : 5 * k + 5 ≤ Ln) (nx : lwI p l e s m below meth c G b (k + 1)) {σ : Sg} {adm : Nat → Nat} {L : List Nat} {f : Nat → va_E} {ad : xAd} {H : Heap} {locs : List Loc} {ls : Array Slot} (hI : Iv σ) (hR : RX G L f ad σ) (X : hH G (lwA s) s.heap s (mW G adm σ ++ va_pl L f) H locs) (hl : lv_has ls 4 [(0, .ref b), (1, .ref (ad 0 0 0 0)), (2, .ref (adm 0)), (3, .int (nI (5 * k)))]) : W p l e room_1 s m #[Value.ref b] below meth c H locs (30 + 20 * k) (2900 + 90 * k) (lw_Z below #[Value.ref b] s) (F0 m 404 ls []) := by
  have C0' := C0
  obtain ⟨hx, hb, hr, hml, hown, hts0, hX, hbl, hlocks, hgv⟩ := C0
  have hts : ∀ w ∈ wsL_law, w.before #[Value.ref b] s = true := fun w h => hts0 w (wsL_law_in w h)
  have S : CallFix p m c cL_law 4 s #[Value.ref b] wsL_law RL := ⟨hx, hb, hml, hown, hts⟩
  have hbA : ¬ lwA s b := Nat.not_le.mpr hbl
  refine lv_aload_n hx hb dL_law_404 rfl (lv_at hl 1 rfl) ?_
  refine lv_aload_n hx hb dL_law_405 rfl (lv_at hl 0 rfl) ?_
  refine lv_iload_n hx hb dL_law_406 rfl (lv_at hl 3 rfl) ?_
  refine lv_iconst (v := 1) hx hb dL_law_407 (by decide) ?_
  refine lv_iadd hx hb dL_law_408 ?_
  refine hx_ei (show _ = nI (5 * k + 1) from nI_add (5 * k) 1) ?_
  refine va_sld hx hb hX hbl hbA X.2.2.2.1 (vp_in_nI (by omega) (by omega)) dL_law_409 ?_
  refine hx_ei (show _ = xs (5 * k + 1) from by rw [nI_clamp (by omega)]) ?_
  refine lv_aload_n hx hb dL_law_410 rfl (lv_at hl 0 rfl) ?_
  refine lv_iload_n hx hb dL_law_411 rfl (lv_at hl 3 rfl) ?_
  refine lv_iconst (v := 2) hx hb dL_law_412 (by decide) ?_
  refine lv_iadd hx hb dL_law_413 ?_
  refine hx_ei (show _ = nI (5 * k + 2) from nI_add (5 * k) 2) ?_
  refine va_sld hx hb hX hbl hbA X.2.2.2.1 (vp_in_nI (by omega) (by omega)) dL_law_414 ?_
  refine hx_ei (show _ = xs (5 * k + 2) from by rw [nI_clamp (by omega)]) ?_
  refine lv_aload_n hx hb dL_law_415 rfl (lv_at hl 0 rfl) ?_
  refine lv_iload_n hx hb dL_law_416 rfl (lv_at hl 3 rfl) ?_
  refine lv_iconst (v := 3) hx hb dL_law_417 (by decide) ?_
  refine lv_iadd hx hb dL_law_418 ?_
  refine hx_ei (show _ = nI (5 * k + 3) from nI_add (5 * k) 3) ?_
  refine va_sld hx hb hX hbl hbA X.2.2.2.1 (vp_in_nI (by omega) (by omega)) dL_law_419 ?_
  refine hx_ei (show _ = xs (5 * k + 3) from by rw [nI_clamp (by omega)]) ?_
  refine hx_VPi (As := [.int (xs (5 * k + 1)), .int (xs (5 * k + 2)), .int (xs (5 * k + 3))]) (rest := []) S X (c_X6_scaleField l G L f ad σ (xs (5 * k + 1)) (xs (5 * k + 2)) (xs (5 * k + 3)) hI.1 hR) gL_law_X6_scaleField rfl (n := 3) (by decide +kernel) rfl ⟨(Nat.le_of_ble_eq_true rfl), (Nat.le_of_ble_eq_true rfl)⟩ (xp_recv (ci := 6) X.right rfl (rx0 hR).1 (rx0 hR).2) hl.1 rfl (Nat.le_of_ble_eq_true rfl) dL_law_420 ⟨by show 30 + 20 * k + 1 ≤ 600000; omega, by show 2900 + 90 * k + 3 ≤ 7302250; omega⟩ (fun r wd1 H locs hp X => ?_)
  obtain ⟨rfl, L2, f2, ad2, rfl, hR2, h02⟩ := hp
  refine lv_aload_n hx hb dL_law_423 rfl (lv_at hl 2 rfl) ?_
  refine lv_aload_n hx hb dL_law_424 rfl (lv_at hl 0 rfl) ?_
  refine lv_iload_n hx hb dL_law_425 rfl (lv_at hl 3 rfl) ?_
  refine lv_iconst (v := 1) hx hb dL_law_426 (by decide) ?_
  refine lv_iadd hx hb dL_law_427 ?_
  refine hx_ei (show _ = nI (5 * k + 1) from nI_add (5 * k) 1) ?_
  refine va_sld hx hb hX hbl hbA X.2.2.2.1 (vp_in_nI (by omega) (by omega)) dL_law_428 ?_
  refine hx_ei (show _ = xs (5 * k + 1) from by rw [nI_clamp (by omega)]) ?_
  refine lv_aload_n hx hb dL_law_429 rfl (lv_at hl 0 rfl) ?_
  refine lv_iload_n hx hb dL_law_430 rfl (lv_at hl 3 rfl) ?_
  refine lv_iconst (v := 2) hx hb dL_law_431 (by decide) ?_
  refine lv_iadd hx hb dL_law_432 ?_
  refine hx_ei (show _ = nI (5 * k + 2) from nI_add (5 * k) 2) ?_
  refine va_sld hx hb hX hbl hbA X.2.2.2.1 (vp_in_nI (by omega) (by omega)) dL_law_433 ?_
  refine hx_ei (show _ = xs (5 * k + 2) from by rw [nI_clamp (by omega)]) ?_
  refine lv_aload_n hx hb dL_law_434 rfl (lv_at hl 0 rfl) ?_
  refine lv_iload_n hx hb dL_law_435 rfl (lv_at hl 3 rfl) ?_
  refine lv_iconst (v := 3) hx hb dL_law_436 (by decide) ?_
  refine lv_iadd hx hb dL_law_437 ?_
  refine hx_ei (show _ = nI (5 * k + 3) from nI_add (5 * k) 3) ?_
  refine va_sld hx hb hX hbl hbA X.2.2.2.1 (vp_in_nI (by omega) (by omega)) dL_law_438 ?_
  refine hx_ei (show _ = xs (5 * k + 3) from by rw [nI_clamp (by omega)]) ?_
  refine hx_VQi (As := [.int (xs (5 * k + 1)), .int (xs (5 * k + 2)), .int (xs (5 * k + 3))]) (rest := [.int (M_scaleField σ (xs (5 * k + 1)) (xs (5 * k + 2)) (xs (5 * k + 3))).1]) S X (c_X7_scaleField l G adm σ (xs (5 * k + 1)) (xs (5 * k + 2)) (xs (5 * k + 3)) hI.1) gL_law_X7_scaleField rfl (n := 3) (by decide +kernel) rfl ⟨(Nat.le_of_ble_eq_true rfl), (Nat.le_of_ble_eq_true rfl)⟩ (hx_recvL (q0 := 0) (ci := 7) X rfl rfl) hl.1 rfl (Nat.le_of_ble_eq_true rfl) dL_law_439 ⟨by show 30 + 20 * k + 1 + 0 ≤ 600000; omega, by show 2900 + 90 * k + 3 + 0 ≤ 7302250; omega⟩ (fun r wd1 H locs hp X => ?_)
  obtain ⟨rfl, rfl⟩ := hp
  refine lv_icmp_eq (tgt := 994) hx hb dL_law_442 (by decide) (fun _ => ?_) (fun q => absurd rfl q)
  exact law_tail hLn C0' hk nx (iv_scaleField hI (xs (5 * k + 1)) (xs (5 * k + 2)) (xs (5 * k + 3))) hR2 h02 rfl X hl (by show 30 + 20 * k + 1 + 0 ≤ 30 + 20 * (k + 1); omega) (by show 2900 + 90 * k + 3 + 0 ≤ 2900 + 90 * (k + 1); omega)

set_option maxRecDepth 100000 in
set_option maxHeartbeats 4000000 in
theorem law_c9 (hLn : Ln ≤ 2560) (C0 : lw_At p s m meth c b Ln xs) {k : Nat} (hk : 5 * k + 5 ≤ Ln) (nx : lwI p l e s m below meth c G b (k + 1)) {σ : Sg} {adm : Nat → Nat} {L : List Nat} {f : Nat → va_E} {ad : xAd} {H : Heap} {locs : List Loc} {ls : Array Slot} (hI : Iv σ) (hR : RX G L f ad σ) (X : hH G (lwA s) s.heap s (mW G adm σ ++ va_pl L f) H locs) (hl : lv_has ls 4 [(0, .ref b), (1, .ref (ad 0 0 0 0)), (2, .ref (adm 0)), (3, .int (nI (5 * k)))]) : W p l e room_1 s m #[Value.ref b] below meth c H locs (30 + 20 * k) (2900 + 90 * k) (lw_Z below #[Value.ref b] s) (F0 m 447 ls []) := by
  have C0' := C0
  obtain ⟨hx, hb, hr, hml, hown, hts0, hX, hbl, hlocks, hgv⟩ := C0
  have hts : ∀ w ∈ wsL_law, w.before #[Value.ref b] s = true := fun w h => hts0 w (wsL_law_in w h)
  have S : CallFix p m c cL_law 4 s #[Value.ref b] wsL_law RL := ⟨hx, hb, hml, hown, hts⟩
  have hbA : ¬ lwA s b := Nat.not_le.mpr hbl
  refine lv_aload_n hx hb dL_law_447 rfl (lv_at hl 1 rfl) ?_
  refine lv_aload_n hx hb dL_law_448 rfl (lv_at hl 0 rfl) ?_
  refine lv_iload_n hx hb dL_law_449 rfl (lv_at hl 3 rfl) ?_
  refine lv_iconst (v := 1) hx hb dL_law_450 (by decide) ?_
  refine lv_iadd hx hb dL_law_451 ?_
  refine hx_ei (show _ = nI (5 * k + 1) from nI_add (5 * k) 1) ?_
  refine va_sld hx hb hX hbl hbA X.2.2.2.1 (vp_in_nI (by omega) (by omega)) dL_law_452 ?_
  refine hx_ei (show _ = xs (5 * k + 1) from by rw [nI_clamp (by omega)]) ?_
  refine lv_aload_n hx hb dL_law_453 rfl (lv_at hl 0 rfl) ?_
  refine lv_iload_n hx hb dL_law_454 rfl (lv_at hl 3 rfl) ?_
  refine lv_iconst (v := 2) hx hb dL_law_455 (by decide) ?_
  refine lv_iadd hx hb dL_law_456 ?_
  refine hx_ei (show _ = nI (5 * k + 2) from nI_add (5 * k) 2) ?_
  refine va_sld hx hb hX hbl hbA X.2.2.2.1 (vp_in_nI (by omega) (by omega)) dL_law_457 ?_
  refine hx_ei (show _ = xs (5 * k + 2) from by rw [nI_clamp (by omega)]) ?_
  refine lv_aload_n hx hb dL_law_458 rfl (lv_at hl 0 rfl) ?_
  refine lv_iload_n hx hb dL_law_459 rfl (lv_at hl 3 rfl) ?_
  refine lv_iconst (v := 3) hx hb dL_law_460 (by decide) ?_
  refine lv_iadd hx hb dL_law_461 ?_
  refine hx_ei (show _ = nI (5 * k + 3) from nI_add (5 * k) 3) ?_
  refine va_sld hx hb hX hbl hbA X.2.2.2.1 (vp_in_nI (by omega) (by omega)) dL_law_462 ?_
  refine hx_ei (show _ = xs (5 * k + 3) from by rw [nI_clamp (by omega)]) ?_
  refine hx_VPi (As := [.int (xs (5 * k + 1)), .int (xs (5 * k + 2)), .int (xs (5 * k + 3))]) (rest := []) S X (c_X6_mergeField l G L f ad σ (xs (5 * k + 1)) (xs (5 * k + 2)) (xs (5 * k + 3)) hI.1 hR) gL_law_X6_mergeField rfl (n := 3) (by decide +kernel) rfl ⟨(Nat.le_of_ble_eq_true rfl), (Nat.le_of_ble_eq_true rfl)⟩ (xp_recv (ci := 6) X.right rfl (rx0 hR).1 (rx0 hR).2) hl.1 rfl (Nat.le_of_ble_eq_true rfl) dL_law_463 ⟨by show 30 + 20 * k + 1 ≤ 600000; omega, by show 2900 + 90 * k + 3 ≤ 7302250; omega⟩ (fun r wd1 H locs hp X => ?_)
  obtain ⟨rfl, L2, f2, ad2, rfl, hR2, h02⟩ := hp
  refine lv_aload_n hx hb dL_law_466 rfl (lv_at hl 2 rfl) ?_
  refine lv_aload_n hx hb dL_law_467 rfl (lv_at hl 0 rfl) ?_
  refine lv_iload_n hx hb dL_law_468 rfl (lv_at hl 3 rfl) ?_
  refine lv_iconst (v := 1) hx hb dL_law_469 (by decide) ?_
  refine lv_iadd hx hb dL_law_470 ?_
  refine hx_ei (show _ = nI (5 * k + 1) from nI_add (5 * k) 1) ?_
  refine va_sld hx hb hX hbl hbA X.2.2.2.1 (vp_in_nI (by omega) (by omega)) dL_law_471 ?_
  refine hx_ei (show _ = xs (5 * k + 1) from by rw [nI_clamp (by omega)]) ?_
  refine lv_aload_n hx hb dL_law_472 rfl (lv_at hl 0 rfl) ?_
  refine lv_iload_n hx hb dL_law_473 rfl (lv_at hl 3 rfl) ?_
  refine lv_iconst (v := 2) hx hb dL_law_474 (by decide) ?_
  refine lv_iadd hx hb dL_law_475 ?_
  refine hx_ei (show _ = nI (5 * k + 2) from nI_add (5 * k) 2) ?_
  refine va_sld hx hb hX hbl hbA X.2.2.2.1 (vp_in_nI (by omega) (by omega)) dL_law_476 ?_
  refine hx_ei (show _ = xs (5 * k + 2) from by rw [nI_clamp (by omega)]) ?_
  refine lv_aload_n hx hb dL_law_477 rfl (lv_at hl 0 rfl) ?_
  refine lv_iload_n hx hb dL_law_478 rfl (lv_at hl 3 rfl) ?_
  refine lv_iconst (v := 3) hx hb dL_law_479 (by decide) ?_
  refine lv_iadd hx hb dL_law_480 ?_
  refine hx_ei (show _ = nI (5 * k + 3) from nI_add (5 * k) 3) ?_
  refine va_sld hx hb hX hbl hbA X.2.2.2.1 (vp_in_nI (by omega) (by omega)) dL_law_481 ?_
  refine hx_ei (show _ = xs (5 * k + 3) from by rw [nI_clamp (by omega)]) ?_
  refine hx_VQi (As := [.int (xs (5 * k + 1)), .int (xs (5 * k + 2)), .int (xs (5 * k + 3))]) (rest := [.int (M_mergeField σ (xs (5 * k + 1)) (xs (5 * k + 2)) (xs (5 * k + 3))).1]) S X (c_X7_mergeField l G adm σ (xs (5 * k + 1)) (xs (5 * k + 2)) (xs (5 * k + 3)) hI.1) gL_law_X7_mergeField rfl (n := 3) (by decide +kernel) rfl ⟨(Nat.le_of_ble_eq_true rfl), (Nat.le_of_ble_eq_true rfl)⟩ (hx_recvL (q0 := 0) (ci := 7) X rfl rfl) hl.1 rfl (Nat.le_of_ble_eq_true rfl) dL_law_482 ⟨by show 30 + 20 * k + 1 + 0 ≤ 600000; omega, by show 2900 + 90 * k + 3 + 0 ≤ 7302250; omega⟩ (fun r wd1 H locs hp X => ?_)
  obtain ⟨rfl, rfl⟩ := hp
  refine lv_icmp_eq (tgt := 994) hx hb dL_law_485 (by decide) (fun _ => ?_) (fun q => absurd rfl q)
  exact law_tail hLn C0' hk nx (iv_mergeField hI (xs (5 * k + 1)) (xs (5 * k + 2)) (xs (5 * k + 3))) hR2 h02 rfl X hl (by show 30 + 20 * k + 1 + 0 ≤ 30 + 20 * (k + 1); omega) (by show 2900 + 90 * k + 3 + 0 ≤ 2900 + 90 * (k + 1); omega)

set_option maxRecDepth 100000 in
set_option maxHeartbeats 4000000 in
theorem law_c10 (hLn : Ln ≤ 2560) (C0 : lw_At p s m meth c b Ln xs) {k : Nat} (hk : 5 * k + 5 ≤ Ln) (nx : lwI p l e s m below meth c G b (k + 1)) {σ : Sg} {adm : Nat → Nat} {L : List Nat} {f : Nat → va_E} {ad : xAd} {H : Heap} {locs : List Loc} {ls : Array Slot} (hI : Iv σ) (hR : RX G L f ad σ) (X : hH G (lwA s) s.heap s (mW G adm σ ++ va_pl L f) H locs) (hl : lv_has ls 4 [(0, .ref b), (1, .ref (ad 0 0 0 0)), (2, .ref (adm 0)), (3, .int (nI (5 * k)))]) : W p l e room_1 s m #[Value.ref b] below meth c H locs (30 + 20 * k) (2900 + 90 * k) (lw_Z below #[Value.ref b] s) (F0 m 490 ls []) := by
  have C0' := C0
  obtain ⟨hx, hb, hr, hml, hown, hts0, hX, hbl, hlocks, hgv⟩ := C0
  have hts : ∀ w ∈ wsL_law, w.before #[Value.ref b] s = true := fun w h => hts0 w (wsL_law_in w h)
  have S : CallFix p m c cL_law 4 s #[Value.ref b] wsL_law RL := ⟨hx, hb, hml, hown, hts⟩
  have hbA : ¬ lwA s b := Nat.not_le.mpr hbl
  refine lv_aload_n hx hb dL_law_490 rfl (lv_at hl 1 rfl) ?_
  refine lv_aload_n hx hb dL_law_491 rfl (lv_at hl 0 rfl) ?_
  refine lv_iload_n hx hb dL_law_492 rfl (lv_at hl 3 rfl) ?_
  refine lv_iconst (v := 1) hx hb dL_law_493 (by decide) ?_
  refine lv_iadd hx hb dL_law_494 ?_
  refine hx_ei (show _ = nI (5 * k + 1) from nI_add (5 * k) 1) ?_
  refine va_sld hx hb hX hbl hbA X.2.2.2.1 (vp_in_nI (by omega) (by omega)) dL_law_495 ?_
  refine hx_ei (show _ = xs (5 * k + 1) from by rw [nI_clamp (by omega)]) ?_
  refine hx_VPi (As := [.int (xs (5 * k + 1))]) (rest := []) S X (c_X6_activate l G L f ad σ (xs (5 * k + 1)) hI.1 hR) gL_law_X6_activate rfl (n := 1) (by decide +kernel) rfl ⟨(Nat.le_of_ble_eq_true rfl), (Nat.le_of_ble_eq_true rfl)⟩ (xp_recv (ci := 6) X.right rfl (rx0 hR).1 (rx0 hR).2) hl.1 rfl (Nat.le_of_ble_eq_true rfl) dL_law_496 ⟨by show 30 + 20 * k + 0 ≤ 600000; omega, by show 2900 + 90 * k + 0 ≤ 7302250; omega⟩ (fun r wd1 H locs hp X => ?_)
  obtain ⟨rfl, L2, f2, ad2, rfl, hR2, h02⟩ := hp
  refine lv_aload_n hx hb dL_law_499 rfl (lv_at hl 2 rfl) ?_
  refine lv_aload_n hx hb dL_law_500 rfl (lv_at hl 0 rfl) ?_
  refine lv_iload_n hx hb dL_law_501 rfl (lv_at hl 3 rfl) ?_
  refine lv_iconst (v := 1) hx hb dL_law_502 (by decide) ?_
  refine lv_iadd hx hb dL_law_503 ?_
  refine hx_ei (show _ = nI (5 * k + 1) from nI_add (5 * k) 1) ?_
  refine va_sld hx hb hX hbl hbA X.2.2.2.1 (vp_in_nI (by omega) (by omega)) dL_law_504 ?_
  refine hx_ei (show _ = xs (5 * k + 1) from by rw [nI_clamp (by omega)]) ?_
  refine hx_VQi (As := [.int (xs (5 * k + 1))]) (rest := [.int (M_activate σ (xs (5 * k + 1))).1]) S X (c_X7_activate l G adm σ (xs (5 * k + 1)) hI.1) gL_law_X7_activate rfl (n := 1) (by decide +kernel) rfl ⟨(Nat.le_of_ble_eq_true rfl), (Nat.le_of_ble_eq_true rfl)⟩ (hx_recvL (q0 := 0) (ci := 7) X rfl rfl) hl.1 rfl (Nat.le_of_ble_eq_true rfl) dL_law_505 ⟨by show 30 + 20 * k + 0 + 0 ≤ 600000; omega, by show 2900 + 90 * k + 0 + 0 ≤ 7302250; omega⟩ (fun r wd1 H locs hp X => ?_)
  obtain ⟨rfl, rfl⟩ := hp
  refine lv_icmp_eq (tgt := 994) hx hb dL_law_508 (by decide) (fun _ => ?_) (fun q => absurd rfl q)
  exact law_tail hLn C0' hk nx (iv_activate hI (xs (5 * k + 1))) hR2 h02 rfl X hl (by show 30 + 20 * k + 0 + 0 ≤ 30 + 20 * (k + 1); omega) (by show 2900 + 90 * k + 0 + 0 ≤ 2900 + 90 * (k + 1); omega)

set_option maxRecDepth 100000 in
set_option maxHeartbeats 4000000 in
theorem law_c11 (hLn : Ln ≤ 2560) (C0 : lw_At p s m meth c b Ln xs) {k : Nat} (hk : 5 * k + 5 ≤ Ln) (nx : lwI p l e s m below meth c G b (k + 1)) {σ : Sg} {adm : Nat → Nat} {L : List Nat} {f : Nat → va_E} {ad : xAd} {H : Heap} {locs : List Loc} {ls : Array Slot} (hI : Iv σ) (hR : RX G L f ad σ) (X : hH G (lwA s) s.heap s (mW G adm σ ++ va_pl L f) H locs) (hl : lv_has ls 4 [(0, .ref b), (1, .ref (ad 0 0 0 0)), (2, .ref (adm 0)), (3, .int (nI (5 * k)))]) : W p l e room_1 s m #[Value.ref b] below meth c H locs (30 + 20 * k) (2900 + 90 * k) (lw_Z below #[Value.ref b] s) (F0 m 513 ls []) := by
  have C0' := C0
  obtain ⟨hx, hb, hr, hml, hown, hts0, hX, hbl, hlocks, hgv⟩ := C0
  have hts : ∀ w ∈ wsL_law, w.before #[Value.ref b] s = true := fun w h => hts0 w (wsL_law_in w h)
  have S : CallFix p m c cL_law 4 s #[Value.ref b] wsL_law RL := ⟨hx, hb, hml, hown, hts⟩
  have hbA : ¬ lwA s b := Nat.not_le.mpr hbl
  refine lv_aload_n hx hb dL_law_513 rfl (lv_at hl 1 rfl) ?_
  refine lv_aload_n hx hb dL_law_514 rfl (lv_at hl 0 rfl) ?_
  refine lv_iload_n hx hb dL_law_515 rfl (lv_at hl 3 rfl) ?_
  refine lv_iconst (v := 1) hx hb dL_law_516 (by decide) ?_
  refine lv_iadd hx hb dL_law_517 ?_
  refine hx_ei (show _ = nI (5 * k + 1) from nI_add (5 * k) 1) ?_
  refine va_sld hx hb hX hbl hbA X.2.2.2.1 (vp_in_nI (by omega) (by omega)) dL_law_518 ?_
  refine hx_ei (show _ = xs (5 * k + 1) from by rw [nI_clamp (by omega)]) ?_
  refine hx_VPi (As := [.int (xs (5 * k + 1))]) (rest := []) S X (c_X6_discard l G L f ad σ (xs (5 * k + 1)) hI.1 hR) gL_law_X6_discard rfl (n := 1) (by decide +kernel) rfl ⟨(Nat.le_of_ble_eq_true rfl), (Nat.le_of_ble_eq_true rfl)⟩ (xp_recv (ci := 6) X.right rfl (rx0 hR).1 (rx0 hR).2) hl.1 rfl (Nat.le_of_ble_eq_true rfl) dL_law_519 ⟨by show 30 + 20 * k + 0 ≤ 600000; omega, by show 2900 + 90 * k + 0 ≤ 7302250; omega⟩ (fun r wd1 H locs hp X => ?_)
  obtain ⟨rfl, L2, f2, ad2, rfl, hR2, h02⟩ := hp
  refine lv_aload_n hx hb dL_law_522 rfl (lv_at hl 2 rfl) ?_
  refine lv_aload_n hx hb dL_law_523 rfl (lv_at hl 0 rfl) ?_
  refine lv_iload_n hx hb dL_law_524 rfl (lv_at hl 3 rfl) ?_
  refine lv_iconst (v := 1) hx hb dL_law_525 (by decide) ?_
  refine lv_iadd hx hb dL_law_526 ?_
  refine hx_ei (show _ = nI (5 * k + 1) from nI_add (5 * k) 1) ?_
  refine va_sld hx hb hX hbl hbA X.2.2.2.1 (vp_in_nI (by omega) (by omega)) dL_law_527 ?_
  refine hx_ei (show _ = xs (5 * k + 1) from by rw [nI_clamp (by omega)]) ?_
  refine hx_VQi (As := [.int (xs (5 * k + 1))]) (rest := [.int (M_discard σ (xs (5 * k + 1))).1]) S X (c_X7_discard l G adm σ (xs (5 * k + 1)) hI.1) gL_law_X7_discard rfl (n := 1) (by decide +kernel) rfl ⟨(Nat.le_of_ble_eq_true rfl), (Nat.le_of_ble_eq_true rfl)⟩ (hx_recvL (q0 := 0) (ci := 7) X rfl rfl) hl.1 rfl (Nat.le_of_ble_eq_true rfl) dL_law_528 ⟨by show 30 + 20 * k + 0 + 0 ≤ 600000; omega, by show 2900 + 90 * k + 0 + 0 ≤ 7302250; omega⟩ (fun r wd1 H locs hp X => ?_)
  obtain ⟨rfl, rfl⟩ := hp
  refine lv_icmp_eq (tgt := 994) hx hb dL_law_531 (by decide) (fun _ => ?_) (fun q => absurd rfl q)
  exact law_tail hLn C0' hk nx (iv_discard hI (xs (5 * k + 1))) hR2 h02 rfl X hl (by show 30 + 20 * k + 0 + 0 ≤ 30 + 20 * (k + 1); omega) (by show 2900 + 90 * k + 0 + 0 ≤ 2900 + 90 * (k + 1); omega)

set_option maxRecDepth 100000 in
set_option maxHeartbeats 4000000 in
theorem law_c12 (hLn : Ln ≤ 2560) (C0 : lw_At p s m meth c b Ln xs) {k : Nat} (hk : 5 * k + 5 ≤ Ln) (nx : lwI p l e s m below meth c G b (k + 1)) {σ : Sg} {adm : Nat → Nat} {L : List Nat} {f : Nat → va_E} {ad : xAd} {H : Heap} {locs : List Loc} {ls : Array Slot} (hI : Iv σ) (hR : RX G L f ad σ) (X : hH G (lwA s) s.heap s (mW G adm σ ++ va_pl L f) H locs) (hl : lv_has ls 4 [(0, .ref b), (1, .ref (ad 0 0 0 0)), (2, .ref (adm 0)), (3, .int (nI (5 * k)))]) : W p l e room_1 s m #[Value.ref b] below meth c H locs (30 + 20 * k) (2900 + 90 * k) (lw_Z below #[Value.ref b] s) (F0 m 536 ls []) := by
  have C0' := C0
  obtain ⟨hx, hb, hr, hml, hown, hts0, hX, hbl, hlocks, hgv⟩ := C0
  have hts : ∀ w ∈ wsL_law, w.before #[Value.ref b] s = true := fun w h => hts0 w (wsL_law_in w h)
  have S : CallFix p m c cL_law 4 s #[Value.ref b] wsL_law RL := ⟨hx, hb, hml, hown, hts⟩
  have hbA : ¬ lwA s b := Nat.not_le.mpr hbl
  refine lv_aload_n hx hb dL_law_536 rfl (lv_at hl 1 rfl) ?_
  refine lv_aload_n hx hb dL_law_537 rfl (lv_at hl 0 rfl) ?_
  refine lv_iload_n hx hb dL_law_538 rfl (lv_at hl 3 rfl) ?_
  refine lv_iconst (v := 1) hx hb dL_law_539 (by decide) ?_
  refine lv_iadd hx hb dL_law_540 ?_
  refine hx_ei (show _ = nI (5 * k + 1) from nI_add (5 * k) 1) ?_
  refine va_sld hx hb hX hbl hbA X.2.2.2.1 (vp_in_nI (by omega) (by omega)) dL_law_541 ?_
  refine hx_ei (show _ = xs (5 * k + 1) from by rw [nI_clamp (by omega)]) ?_
  refine hx_VPi (As := [.int (xs (5 * k + 1))]) (rest := []) S X (c_X6_rollback l G L f ad σ (xs (5 * k + 1)) hI.1 hR hI.2) gL_law_X6_rollback rfl (n := 1) (by decide +kernel) rfl ⟨(Nat.le_of_ble_eq_true rfl), (Nat.le_of_ble_eq_true rfl)⟩ (xp_recv (ci := 6) X.right rfl (rx0 hR).1 (rx0 hR).2) hl.1 rfl (Nat.le_of_ble_eq_true rfl) dL_law_542 ⟨by show 30 + 20 * k + 0 ≤ 600000; omega, by show 2900 + 90 * k + 0 ≤ 7302250; omega⟩ (fun r wd1 H locs hp X => ?_)
  obtain ⟨rfl, L2, f2, ad2, rfl, hR2, h02⟩ := hp
  refine lv_aload_n hx hb dL_law_545 rfl (lv_at hl 2 rfl) ?_
  refine lv_aload_n hx hb dL_law_546 rfl (lv_at hl 0 rfl) ?_
  refine lv_iload_n hx hb dL_law_547 rfl (lv_at hl 3 rfl) ?_
  refine lv_iconst (v := 1) hx hb dL_law_548 (by decide) ?_
  refine lv_iadd hx hb dL_law_549 ?_
  refine hx_ei (show _ = nI (5 * k + 1) from nI_add (5 * k) 1) ?_
  refine va_sld hx hb hX hbl hbA X.2.2.2.1 (vp_in_nI (by omega) (by omega)) dL_law_550 ?_
  refine hx_ei (show _ = xs (5 * k + 1) from by rw [nI_clamp (by omega)]) ?_
  refine hx_VQi (As := [.int (xs (5 * k + 1))]) (rest := [.int (M_rollback σ (xs (5 * k + 1))).1]) S X (c_X7_rollback l G adm σ (xs (5 * k + 1)) hI.1) gL_law_X7_rollback rfl (n := 1) (by decide +kernel) rfl ⟨(Nat.le_of_ble_eq_true rfl), (Nat.le_of_ble_eq_true rfl)⟩ (hx_recvL (q0 := 0) (ci := 7) X rfl rfl) hl.1 rfl (Nat.le_of_ble_eq_true rfl) dL_law_551 ⟨by show 30 + 20 * k + 0 + 0 ≤ 600000; omega, by show 2900 + 90 * k + 0 + 0 ≤ 7302250; omega⟩ (fun r wd1 H locs hp X => ?_)
  obtain ⟨rfl, rfl⟩ := hp
  refine lv_icmp_eq (tgt := 994) hx hb dL_law_554 (by decide) (fun _ => ?_) (fun q => absurd rfl q)
  exact law_tail hLn C0' hk nx (iv_rollback hI (xs (5 * k + 1))) hR2 h02 rfl X hl (by show 30 + 20 * k + 0 + 0 ≤ 30 + 20 * (k + 1); omega) (by show 2900 + 90 * k + 0 + 0 ≤ 2900 + 90 * (k + 1); omega)

set_option maxRecDepth 100000 in
set_option maxHeartbeats 4000000 in
theorem law_c13 (hLn : Ln ≤ 2560) (C0 : lw_At p s m meth c b Ln xs) {k : Nat} (hk : 5 * k + 5 ≤ Ln) (nx : lwI p l e s m below meth c G b (k + 1)) {σ : Sg} {adm : Nat → Nat} {L : List Nat} {f : Nat → va_E} {ad : xAd} {H : Heap} {locs : List Loc} {ls : Array Slot} (hI : Iv σ) (hR : RX G L f ad σ) (X : hH G (lwA s) s.heap s (mW G adm σ ++ va_pl L f) H locs) (hl : lv_has ls 4 [(0, .ref b), (1, .ref (ad 0 0 0 0)), (2, .ref (adm 0)), (3, .int (nI (5 * k)))]) : W p l e room_1 s m #[Value.ref b] below meth c H locs (30 + 20 * k) (2900 + 90 * k) (lw_Z below #[Value.ref b] s) (F0 m 559 ls []) := by
  have C0' := C0
  obtain ⟨hx, hb, hr, hml, hown, hts0, hX, hbl, hlocks, hgv⟩ := C0
  have hts : ∀ w ∈ wsL_law, w.before #[Value.ref b] s = true := fun w h => hts0 w (wsL_law_in w h)
  have S : CallFix p m c cL_law 4 s #[Value.ref b] wsL_law RL := ⟨hx, hb, hml, hown, hts⟩
  have hbA : ¬ lwA s b := Nat.not_le.mpr hbl
  refine lv_aload_n hx hb dL_law_559 rfl (lv_at hl 1 rfl) ?_
  refine lv_aload_n hx hb dL_law_560 rfl (lv_at hl 0 rfl) ?_
  refine lv_iload_n hx hb dL_law_561 rfl (lv_at hl 3 rfl) ?_
  refine lv_iconst (v := 1) hx hb dL_law_562 (by decide) ?_
  refine lv_iadd hx hb dL_law_563 ?_
  refine hx_ei (show _ = nI (5 * k + 1) from nI_add (5 * k) 1) ?_
  refine va_sld hx hb hX hbl hbA X.2.2.2.1 (vp_in_nI (by omega) (by omega)) dL_law_564 ?_
  refine hx_ei (show _ = xs (5 * k + 1) from by rw [nI_clamp (by omega)]) ?_
  refine lv_aload_n hx hb dL_law_565 rfl (lv_at hl 0 rfl) ?_
  refine lv_iload_n hx hb dL_law_566 rfl (lv_at hl 3 rfl) ?_
  refine lv_iconst (v := 2) hx hb dL_law_567 (by decide) ?_
  refine lv_iadd hx hb dL_law_568 ?_
  refine hx_ei (show _ = nI (5 * k + 2) from nI_add (5 * k) 2) ?_
  refine va_sld hx hb hX hbl hbA X.2.2.2.1 (vp_in_nI (by omega) (by omega)) dL_law_569 ?_
  refine hx_ei (show _ = xs (5 * k + 2) from by rw [nI_clamp (by omega)]) ?_
  refine hx_VPi (As := [.int (xs (5 * k + 1)), .int (xs (5 * k + 2))]) (rest := []) S X (c_X6_call l G L f ad σ (xs (5 * k + 1)) (xs (5 * k + 2)) hI.1 hR) gL_law_X6_call rfl (n := 2) (by decide +kernel) rfl ⟨(Nat.le_of_ble_eq_true rfl), (Nat.le_of_ble_eq_true rfl)⟩ (xp_recv (ci := 6) X.right rfl (rx0 hR).1 (rx0 hR).2) hl.1 rfl (Nat.le_of_ble_eq_true rfl) dL_law_570 ⟨by show 30 + 20 * k + 1 ≤ 600000; omega, by show 2900 + 90 * k + 3 ≤ 7302250; omega⟩ (fun r wd1 H locs hp X => ?_)
  obtain ⟨rfl, L2, f2, ad2, rfl, hR2, h02⟩ := hp
  refine lv_aload_n hx hb dL_law_573 rfl (lv_at hl 2 rfl) ?_
  refine lv_aload_n hx hb dL_law_574 rfl (lv_at hl 0 rfl) ?_
  refine lv_iload_n hx hb dL_law_575 rfl (lv_at hl 3 rfl) ?_
  refine lv_iconst (v := 1) hx hb dL_law_576 (by decide) ?_
  refine lv_iadd hx hb dL_law_577 ?_
  refine hx_ei (show _ = nI (5 * k + 1) from nI_add (5 * k) 1) ?_
  refine va_sld hx hb hX hbl hbA X.2.2.2.1 (vp_in_nI (by omega) (by omega)) dL_law_578 ?_
  refine hx_ei (show _ = xs (5 * k + 1) from by rw [nI_clamp (by omega)]) ?_
  refine lv_aload_n hx hb dL_law_579 rfl (lv_at hl 0 rfl) ?_
  refine lv_iload_n hx hb dL_law_580 rfl (lv_at hl 3 rfl) ?_
  refine lv_iconst (v := 2) hx hb dL_law_581 (by decide) ?_
  refine lv_iadd hx hb dL_law_582 ?_
  refine hx_ei (show _ = nI (5 * k + 2) from nI_add (5 * k) 2) ?_
  refine va_sld hx hb hX hbl hbA X.2.2.2.1 (vp_in_nI (by omega) (by omega)) dL_law_583 ?_
  refine hx_ei (show _ = xs (5 * k + 2) from by rw [nI_clamp (by omega)]) ?_
  refine hx_VQi (As := [.int (xs (5 * k + 1)), .int (xs (5 * k + 2))]) (rest := [.int (M_call σ (xs (5 * k + 1)) (xs (5 * k + 2))).1]) S X (c_X7_call l G adm σ (xs (5 * k + 1)) (xs (5 * k + 2)) hI.1) gL_law_X7_call rfl (n := 2) (by decide +kernel) rfl ⟨(Nat.le_of_ble_eq_true rfl), (Nat.le_of_ble_eq_true rfl)⟩ (hx_recvL (q0 := 0) (ci := 7) X rfl rfl) hl.1 rfl (Nat.le_of_ble_eq_true rfl) dL_law_584 ⟨by show 30 + 20 * k + 1 + 0 ≤ 600000; omega, by show 2900 + 90 * k + 3 + 0 ≤ 7302250; omega⟩ (fun r wd1 H locs hp X => ?_)
  obtain ⟨rfl, rfl⟩ := hp
  refine lv_icmp_eq (tgt := 994) hx hb dL_law_587 (by decide) (fun _ => ?_) (fun q => absurd rfl q)
  exact law_tail hLn C0' hk nx (iv_call hI (xs (5 * k + 1)) (xs (5 * k + 2))) hR2 h02 rfl X hl (by show 30 + 20 * k + 1 + 0 ≤ 30 + 20 * (k + 1); omega) (by show 2900 + 90 * k + 3 + 0 ≤ 2900 + 90 * (k + 1); omega)

set_option maxRecDepth 100000 in
set_option maxHeartbeats 4000000 in
theorem law_c14 (hLn : Ln ≤ 2560) (C0 : lw_At p s m meth c b Ln xs) {k : Nat} (hk : 5 * k + 5 ≤ Ln) (nx : lwI p l e s m below meth c G b (k + 1)) {σ : Sg} {adm : Nat → Nat} {L : List Nat} {f : Nat → va_E} {ad : xAd} {H : Heap} {locs : List Loc} {ls : Array Slot} (hI : Iv σ) (hR : RX G L f ad σ) (X : hH G (lwA s) s.heap s (mW G adm σ ++ va_pl L f) H locs) (hl : lv_has ls 4 [(0, .ref b), (1, .ref (ad 0 0 0 0)), (2, .ref (adm 0)), (3, .int (nI (5 * k)))]) : W p l e room_1 s m #[Value.ref b] below meth c H locs (30 + 20 * k) (2900 + 90 * k) (lw_Z below #[Value.ref b] s) (F0 m 592 ls []) := by
  have C0' := C0
  obtain ⟨hx, hb, hr, hml, hown, hts0, hX, hbl, hlocks, hgv⟩ := C0
  have hts : ∀ w ∈ wsL_law, w.before #[Value.ref b] s = true := fun w h => hts0 w (wsL_law_in w h)
  have S : CallFix p m c cL_law 4 s #[Value.ref b] wsL_law RL := ⟨hx, hb, hml, hown, hts⟩
  have hbA : ¬ lwA s b := Nat.not_le.mpr hbl
  refine lv_aload_n hx hb dL_law_592 rfl (lv_at hl 1 rfl) ?_
  refine lv_aload_n hx hb dL_law_593 rfl (lv_at hl 0 rfl) ?_
  refine lv_iload_n hx hb dL_law_594 rfl (lv_at hl 3 rfl) ?_
  refine lv_iconst (v := 1) hx hb dL_law_595 (by decide) ?_
  refine lv_iadd hx hb dL_law_596 ?_
  refine hx_ei (show _ = nI (5 * k + 1) from nI_add (5 * k) 1) ?_
  refine va_sld hx hb hX hbl hbA X.2.2.2.1 (vp_in_nI (by omega) (by omega)) dL_law_597 ?_
  refine hx_ei (show _ = xs (5 * k + 1) from by rw [nI_clamp (by omega)]) ?_
  refine hx_VPi (As := [.int (xs (5 * k + 1))]) (rest := []) S X (c_X6_finish l G L f ad σ (xs (5 * k + 1)) hI.1 hR) gL_law_X6_finish rfl (n := 1) (by decide +kernel) rfl ⟨(Nat.le_of_ble_eq_true rfl), (Nat.le_of_ble_eq_true rfl)⟩ (xp_recv (ci := 6) X.right rfl (rx0 hR).1 (rx0 hR).2) hl.1 rfl (Nat.le_of_ble_eq_true rfl) dL_law_598 ⟨by show 30 + 20 * k + 0 ≤ 600000; omega, by show 2900 + 90 * k + 0 ≤ 7302250; omega⟩ (fun r wd1 H locs hp X => ?_)
  obtain ⟨rfl, L2, f2, ad2, rfl, hR2, h02⟩ := hp
  refine lv_aload_n hx hb dL_law_601 rfl (lv_at hl 2 rfl) ?_
  refine lv_aload_n hx hb dL_law_602 rfl (lv_at hl 0 rfl) ?_
  refine lv_iload_n hx hb dL_law_603 rfl (lv_at hl 3 rfl) ?_
  refine lv_iconst (v := 1) hx hb dL_law_604 (by decide) ?_
  refine lv_iadd hx hb dL_law_605 ?_
  refine hx_ei (show _ = nI (5 * k + 1) from nI_add (5 * k) 1) ?_
  refine va_sld hx hb hX hbl hbA X.2.2.2.1 (vp_in_nI (by omega) (by omega)) dL_law_606 ?_
  refine hx_ei (show _ = xs (5 * k + 1) from by rw [nI_clamp (by omega)]) ?_
  refine hx_VQi (As := [.int (xs (5 * k + 1))]) (rest := [.int (M_finish σ (xs (5 * k + 1))).1]) S X (c_X7_finish l G adm σ (xs (5 * k + 1)) hI.1) gL_law_X7_finish rfl (n := 1) (by decide +kernel) rfl ⟨(Nat.le_of_ble_eq_true rfl), (Nat.le_of_ble_eq_true rfl)⟩ (hx_recvL (q0 := 0) (ci := 7) X rfl rfl) hl.1 rfl (Nat.le_of_ble_eq_true rfl) dL_law_607 ⟨by show 30 + 20 * k + 0 + 0 ≤ 600000; omega, by show 2900 + 90 * k + 0 + 0 ≤ 7302250; omega⟩ (fun r wd1 H locs hp X => ?_)
  obtain ⟨rfl, rfl⟩ := hp
  refine lv_icmp_eq (tgt := 994) hx hb dL_law_610 (by decide) (fun _ => ?_) (fun q => absurd rfl q)
  exact law_tail hLn C0' hk nx (iv_finish hI (xs (5 * k + 1))) hR2 h02 rfl X hl (by show 30 + 20 * k + 0 + 0 ≤ 30 + 20 * (k + 1); omega) (by show 2900 + 90 * k + 0 + 0 ≤ 2900 + 90 * (k + 1); omega)

set_option maxRecDepth 100000 in
set_option maxHeartbeats 4000000 in
theorem law_c15 (hLn : Ln ≤ 2560) (C0 : lw_At p s m meth c b Ln xs) {k : Nat} (hk : 5 * k + 5 ≤ Ln) (nx : lwI p l e s m below meth c G b (k + 1)) {σ : Sg} {adm : Nat → Nat} {L : List Nat} {f : Nat → va_E} {ad : xAd} {H : Heap} {locs : List Loc} {ls : Array Slot} (hI : Iv σ) (hR : RX G L f ad σ) (X : hH G (lwA s) s.heap s (mW G adm σ ++ va_pl L f) H locs) (hl : lv_has ls 4 [(0, .ref b), (1, .ref (ad 0 0 0 0)), (2, .ref (adm 0)), (3, .int (nI (5 * k)))]) : W p l e room_1 s m #[Value.ref b] below meth c H locs (30 + 20 * k) (2900 + 90 * k) (lw_Z below #[Value.ref b] s) (F0 m 615 ls []) := by
  have C0' := C0
  obtain ⟨hx, hb, hr, hml, hown, hts0, hX, hbl, hlocks, hgv⟩ := C0
  have hts : ∀ w ∈ wsL_law, w.before #[Value.ref b] s = true := fun w h => hts0 w (wsL_law_in w h)
  have S : CallFix p m c cL_law 4 s #[Value.ref b] wsL_law RL := ⟨hx, hb, hml, hown, hts⟩
  have hbA : ¬ lwA s b := Nat.not_le.mpr hbl
  refine lv_aload_n hx hb dL_law_615 rfl (lv_at hl 1 rfl) ?_
  refine lv_aload_n hx hb dL_law_616 rfl (lv_at hl 0 rfl) ?_
  refine lv_iload_n hx hb dL_law_617 rfl (lv_at hl 3 rfl) ?_
  refine lv_iconst (v := 1) hx hb dL_law_618 (by decide) ?_
  refine lv_iadd hx hb dL_law_619 ?_
  refine hx_ei (show _ = nI (5 * k + 1) from nI_add (5 * k) 1) ?_
  refine va_sld hx hb hX hbl hbA X.2.2.2.1 (vp_in_nI (by omega) (by omega)) dL_law_620 ?_
  refine hx_ei (show _ = xs (5 * k + 1) from by rw [nI_clamp (by omega)]) ?_
  refine hx_VPi (As := [.int (xs (5 * k + 1))]) (rest := []) S X (c_X6_depth l G L f ad σ (xs (5 * k + 1)) hI.1 hR) gL_law_X6_depth rfl (n := 1) (by decide +kernel) rfl ⟨(Nat.le_of_ble_eq_true rfl), (Nat.le_of_ble_eq_true rfl)⟩ (xp_recv (ci := 6) X.right rfl (rx0 hR).1 (rx0 hR).2) hl.1 rfl (Nat.le_of_ble_eq_true rfl) dL_law_621 ⟨by show 30 + 20 * k + 0 ≤ 600000; omega, by show 2900 + 90 * k + 0 ≤ 7302250; omega⟩ (fun r wd1 H locs hp X => ?_)
  obtain ⟨rfl, L2, f2, ad2, rfl, hR2, h02⟩ := hp
  refine lv_aload_n hx hb dL_law_624 rfl (lv_at hl 2 rfl) ?_
  refine lv_aload_n hx hb dL_law_625 rfl (lv_at hl 0 rfl) ?_
  refine lv_iload_n hx hb dL_law_626 rfl (lv_at hl 3 rfl) ?_
  refine lv_iconst (v := 1) hx hb dL_law_627 (by decide) ?_
  refine lv_iadd hx hb dL_law_628 ?_
  refine hx_ei (show _ = nI (5 * k + 1) from nI_add (5 * k) 1) ?_
  refine va_sld hx hb hX hbl hbA X.2.2.2.1 (vp_in_nI (by omega) (by omega)) dL_law_629 ?_
  refine hx_ei (show _ = xs (5 * k + 1) from by rw [nI_clamp (by omega)]) ?_
  refine hx_VQi (As := [.int (xs (5 * k + 1))]) (rest := [.int (M_depth σ (xs (5 * k + 1))).1]) S X (c_X7_depth l G adm σ (xs (5 * k + 1)) hI.1) gL_law_X7_depth rfl (n := 1) (by decide +kernel) rfl ⟨(Nat.le_of_ble_eq_true rfl), (Nat.le_of_ble_eq_true rfl)⟩ (hx_recvL (q0 := 0) (ci := 7) X rfl rfl) hl.1 rfl (Nat.le_of_ble_eq_true rfl) dL_law_630 ⟨by show 30 + 20 * k + 0 + 0 ≤ 600000; omega, by show 2900 + 90 * k + 0 + 0 ≤ 7302250; omega⟩ (fun r wd1 H locs hp X => ?_)
  obtain ⟨rfl, rfl⟩ := hp
  refine lv_icmp_eq (tgt := 994) hx hb dL_law_633 (by decide) (fun _ => ?_) (fun q => absurd rfl q)
  exact law_tail hLn C0' hk nx (iv_depth hI (xs (5 * k + 1))) hR2 h02 rfl X hl (by show 30 + 20 * k + 0 + 0 ≤ 30 + 20 * (k + 1); omega) (by show 2900 + 90 * k + 0 + 0 ≤ 2900 + 90 * (k + 1); omega)

set_option maxRecDepth 100000 in
set_option maxHeartbeats 4000000 in
theorem law_c16 (hLn : Ln ≤ 2560) (C0 : lw_At p s m meth c b Ln xs) {k : Nat} (hk : 5 * k + 5 ≤ Ln) (nx : lwI p l e s m below meth c G b (k + 1)) {σ : Sg} {adm : Nat → Nat} {L : List Nat} {f : Nat → va_E} {ad : xAd} {H : Heap} {locs : List Loc} {ls : Array Slot} (hI : Iv σ) (hR : RX G L f ad σ) (X : hH G (lwA s) s.heap s (mW G adm σ ++ va_pl L f) H locs) (hl : lv_has ls 4 [(0, .ref b), (1, .ref (ad 0 0 0 0)), (2, .ref (adm 0)), (3, .int (nI (5 * k)))]) : W p l e room_1 s m #[Value.ref b] below meth c H locs (30 + 20 * k) (2900 + 90 * k) (lw_Z below #[Value.ref b] s) (F0 m 638 ls []) := by
  have C0' := C0
  obtain ⟨hx, hb, hr, hml, hown, hts0, hX, hbl, hlocks, hgv⟩ := C0
  have hts : ∀ w ∈ wsL_law, w.before #[Value.ref b] s = true := fun w h => hts0 w (wsL_law_in w h)
  have S : CallFix p m c cL_law 4 s #[Value.ref b] wsL_law RL := ⟨hx, hb, hml, hown, hts⟩
  have hbA : ¬ lwA s b := Nat.not_le.mpr hbl
  refine lv_aload_n hx hb dL_law_638 rfl (lv_at hl 1 rfl) ?_
  refine lv_aload_n hx hb dL_law_639 rfl (lv_at hl 0 rfl) ?_
  refine lv_iload_n hx hb dL_law_640 rfl (lv_at hl 3 rfl) ?_
  refine lv_iconst (v := 1) hx hb dL_law_641 (by decide) ?_
  refine lv_iadd hx hb dL_law_642 ?_
  refine hx_ei (show _ = nI (5 * k + 1) from nI_add (5 * k) 1) ?_
  refine va_sld hx hb hX hbl hbA X.2.2.2.1 (vp_in_nI (by omega) (by omega)) dL_law_643 ?_
  refine hx_ei (show _ = xs (5 * k + 1) from by rw [nI_clamp (by omega)]) ?_
  refine lv_aload_n hx hb dL_law_644 rfl (lv_at hl 0 rfl) ?_
  refine lv_iload_n hx hb dL_law_645 rfl (lv_at hl 3 rfl) ?_
  refine lv_iconst (v := 2) hx hb dL_law_646 (by decide) ?_
  refine lv_iadd hx hb dL_law_647 ?_
  refine hx_ei (show _ = nI (5 * k + 2) from nI_add (5 * k) 2) ?_
  refine va_sld hx hb hX hbl hbA X.2.2.2.1 (vp_in_nI (by omega) (by omega)) dL_law_648 ?_
  refine hx_ei (show _ = xs (5 * k + 2) from by rw [nI_clamp (by omega)]) ?_
  refine hx_VPi (As := [.int (xs (5 * k + 1)), .int (xs (5 * k + 2))]) (rest := []) S X (c_X6_frameClass l G L f ad σ (xs (5 * k + 1)) (xs (5 * k + 2)) hI.1 hR) gL_law_X6_frameClass rfl (n := 2) (by decide +kernel) rfl ⟨(Nat.le_of_ble_eq_true rfl), (Nat.le_of_ble_eq_true rfl)⟩ (xp_recv (ci := 6) X.right rfl (rx0 hR).1 (rx0 hR).2) hl.1 rfl (Nat.le_of_ble_eq_true rfl) dL_law_649 ⟨by show 30 + 20 * k + 0 ≤ 600000; omega, by show 2900 + 90 * k + 0 ≤ 7302250; omega⟩ (fun r wd1 H locs hp X => ?_)
  obtain ⟨rfl, L2, f2, ad2, rfl, hR2, h02⟩ := hp
  refine lv_aload_n hx hb dL_law_652 rfl (lv_at hl 2 rfl) ?_
  refine lv_aload_n hx hb dL_law_653 rfl (lv_at hl 0 rfl) ?_
  refine lv_iload_n hx hb dL_law_654 rfl (lv_at hl 3 rfl) ?_
  refine lv_iconst (v := 1) hx hb dL_law_655 (by decide) ?_
  refine lv_iadd hx hb dL_law_656 ?_
  refine hx_ei (show _ = nI (5 * k + 1) from nI_add (5 * k) 1) ?_
  refine va_sld hx hb hX hbl hbA X.2.2.2.1 (vp_in_nI (by omega) (by omega)) dL_law_657 ?_
  refine hx_ei (show _ = xs (5 * k + 1) from by rw [nI_clamp (by omega)]) ?_
  refine lv_aload_n hx hb dL_law_658 rfl (lv_at hl 0 rfl) ?_
  refine lv_iload_n hx hb dL_law_659 rfl (lv_at hl 3 rfl) ?_
  refine lv_iconst (v := 2) hx hb dL_law_660 (by decide) ?_
  refine lv_iadd hx hb dL_law_661 ?_
  refine hx_ei (show _ = nI (5 * k + 2) from nI_add (5 * k) 2) ?_
  refine va_sld hx hb hX hbl hbA X.2.2.2.1 (vp_in_nI (by omega) (by omega)) dL_law_662 ?_
  refine hx_ei (show _ = xs (5 * k + 2) from by rw [nI_clamp (by omega)]) ?_
  refine hx_VQi (As := [.int (xs (5 * k + 1)), .int (xs (5 * k + 2))]) (rest := [.int (M_frameClass σ (xs (5 * k + 1)) (xs (5 * k + 2))).1]) S X (c_X7_frameClass l G adm σ (xs (5 * k + 1)) (xs (5 * k + 2)) hI.1) gL_law_X7_frameClass rfl (n := 2) (by decide +kernel) rfl ⟨(Nat.le_of_ble_eq_true rfl), (Nat.le_of_ble_eq_true rfl)⟩ (hx_recvL (q0 := 0) (ci := 7) X rfl rfl) hl.1 rfl (Nat.le_of_ble_eq_true rfl) dL_law_663 ⟨by show 30 + 20 * k + 0 + 0 ≤ 600000; omega, by show 2900 + 90 * k + 0 + 0 ≤ 7302250; omega⟩ (fun r wd1 H locs hp X => ?_)
  obtain ⟨rfl, rfl⟩ := hp
  refine lv_icmp_eq (tgt := 994) hx hb dL_law_666 (by decide) (fun _ => ?_) (fun q => absurd rfl q)
  exact law_tail hLn C0' hk nx (iv_frameClass hI (xs (5 * k + 1)) (xs (5 * k + 2))) hR2 h02 rfl X hl (by show 30 + 20 * k + 0 + 0 ≤ 30 + 20 * (k + 1); omega) (by show 2900 + 90 * k + 0 + 0 ≤ 2900 + 90 * (k + 1); omega)

set_option maxRecDepth 100000 in
set_option maxHeartbeats 4000000 in
theorem law_c17 (hLn : Ln ≤ 2560) (C0 : lw_At p s m meth c b Ln xs) {k : Nat} (hk : 5 * k + 5 ≤ Ln) (nx : lwI p l e s m below meth c G b (k + 1)) {σ : Sg} {adm : Nat → Nat} {L : List Nat} {f : Nat → va_E} {ad : xAd} {H : Heap} {locs : List Loc} {ls : Array Slot} (hI : Iv σ) (hR : RX G L f ad σ) (X : hH G (lwA s) s.heap s (mW G adm σ ++ va_pl L f) H locs) (hl : lv_has ls 4 [(0, .ref b), (1, .ref (ad 0 0 0 0)), (2, .ref (adm 0)), (3, .int (nI (5 * k)))]) : W p l e room_1 s m #[Value.ref b] below meth c H locs (30 + 20 * k) (2900 + 90 * k) (lw_Z below #[Value.ref b] s) (F0 m 671 ls []) := by
  have C0' := C0
  obtain ⟨hx, hb, hr, hml, hown, hts0, hX, hbl, hlocks, hgv⟩ := C0
  have hts : ∀ w ∈ wsL_law, w.before #[Value.ref b] s = true := fun w h => hts0 w (wsL_law_in w h)
  have S : CallFix p m c cL_law 4 s #[Value.ref b] wsL_law RL := ⟨hx, hb, hml, hown, hts⟩
  have hbA : ¬ lwA s b := Nat.not_le.mpr hbl
  refine lv_aload_n hx hb dL_law_671 rfl (lv_at hl 1 rfl) ?_
  refine lv_aload_n hx hb dL_law_672 rfl (lv_at hl 0 rfl) ?_
  refine lv_iload_n hx hb dL_law_673 rfl (lv_at hl 3 rfl) ?_
  refine lv_iconst (v := 1) hx hb dL_law_674 (by decide) ?_
  refine lv_iadd hx hb dL_law_675 ?_
  refine hx_ei (show _ = nI (5 * k + 1) from nI_add (5 * k) 1) ?_
  refine va_sld hx hb hX hbl hbA X.2.2.2.1 (vp_in_nI (by omega) (by omega)) dL_law_676 ?_
  refine hx_ei (show _ = xs (5 * k + 1) from by rw [nI_clamp (by omega)]) ?_
  refine lv_aload_n hx hb dL_law_677 rfl (lv_at hl 0 rfl) ?_
  refine lv_iload_n hx hb dL_law_678 rfl (lv_at hl 3 rfl) ?_
  refine lv_iconst (v := 2) hx hb dL_law_679 (by decide) ?_
  refine lv_iadd hx hb dL_law_680 ?_
  refine hx_ei (show _ = nI (5 * k + 2) from nI_add (5 * k) 2) ?_
  refine va_sld hx hb hX hbl hbA X.2.2.2.1 (vp_in_nI (by omega) (by omega)) dL_law_681 ?_
  refine hx_ei (show _ = xs (5 * k + 2) from by rw [nI_clamp (by omega)]) ?_
  refine hx_VPi (As := [.int (xs (5 * k + 1)), .int (xs (5 * k + 2))]) (rest := []) S X (c_X6_frameVersion l G L f ad σ (xs (5 * k + 1)) (xs (5 * k + 2)) hI.1 hR) gL_law_X6_frameVersion rfl (n := 2) (by decide +kernel) rfl ⟨(Nat.le_of_ble_eq_true rfl), (Nat.le_of_ble_eq_true rfl)⟩ (xp_recv (ci := 6) X.right rfl (rx0 hR).1 (rx0 hR).2) hl.1 rfl (Nat.le_of_ble_eq_true rfl) dL_law_682 ⟨by show 30 + 20 * k + 0 ≤ 600000; omega, by show 2900 + 90 * k + 0 ≤ 7302250; omega⟩ (fun r wd1 H locs hp X => ?_)
  obtain ⟨rfl, L2, f2, ad2, rfl, hR2, h02⟩ := hp
  refine lv_aload_n hx hb dL_law_685 rfl (lv_at hl 2 rfl) ?_
  refine lv_aload_n hx hb dL_law_686 rfl (lv_at hl 0 rfl) ?_
  refine lv_iload_n hx hb dL_law_687 rfl (lv_at hl 3 rfl) ?_
  refine lv_iconst (v := 1) hx hb dL_law_688 (by decide) ?_
  refine lv_iadd hx hb dL_law_689 ?_
  refine hx_ei (show _ = nI (5 * k + 1) from nI_add (5 * k) 1) ?_
  refine va_sld hx hb hX hbl hbA X.2.2.2.1 (vp_in_nI (by omega) (by omega)) dL_law_690 ?_
  refine hx_ei (show _ = xs (5 * k + 1) from by rw [nI_clamp (by omega)]) ?_
  refine lv_aload_n hx hb dL_law_691 rfl (lv_at hl 0 rfl) ?_
  refine lv_iload_n hx hb dL_law_692 rfl (lv_at hl 3 rfl) ?_
  refine lv_iconst (v := 2) hx hb dL_law_693 (by decide) ?_
  refine lv_iadd hx hb dL_law_694 ?_
  refine hx_ei (show _ = nI (5 * k + 2) from nI_add (5 * k) 2) ?_
  refine va_sld hx hb hX hbl hbA X.2.2.2.1 (vp_in_nI (by omega) (by omega)) dL_law_695 ?_
  refine hx_ei (show _ = xs (5 * k + 2) from by rw [nI_clamp (by omega)]) ?_
  refine hx_VQi (As := [.int (xs (5 * k + 1)), .int (xs (5 * k + 2))]) (rest := [.int (M_frameVersion σ (xs (5 * k + 1)) (xs (5 * k + 2))).1]) S X (c_X7_frameVersion l G adm σ (xs (5 * k + 1)) (xs (5 * k + 2)) hI.1) gL_law_X7_frameVersion rfl (n := 2) (by decide +kernel) rfl ⟨(Nat.le_of_ble_eq_true rfl), (Nat.le_of_ble_eq_true rfl)⟩ (hx_recvL (q0 := 0) (ci := 7) X rfl rfl) hl.1 rfl (Nat.le_of_ble_eq_true rfl) dL_law_696 ⟨by show 30 + 20 * k + 0 + 0 ≤ 600000; omega, by show 2900 + 90 * k + 0 + 0 ≤ 7302250; omega⟩ (fun r wd1 H locs hp X => ?_)
  obtain ⟨rfl, rfl⟩ := hp
  refine lv_icmp_eq (tgt := 994) hx hb dL_law_699 (by decide) (fun _ => ?_) (fun q => absurd rfl q)
  exact law_tail hLn C0' hk nx (iv_frameVersion hI (xs (5 * k + 1)) (xs (5 * k + 2))) hR2 h02 rfl X hl (by show 30 + 20 * k + 0 + 0 ≤ 30 + 20 * (k + 1); omega) (by show 2900 + 90 * k + 0 + 0 ≤ 2900 + 90 * (k + 1); omega)

set_option maxRecDepth 100000 in
set_option maxHeartbeats 4000000 in
theorem law_c18 (hLn : Ln ≤ 2560) (C0 : lw_At p s m meth c b Ln xs) {k : Nat} (hk : 5 * k + 5 ≤ Ln) (nx : lwI p l e s m below meth c G b (k + 1)) {σ : Sg} {adm : Nat → Nat} {L : List Nat} {f : Nat → va_E} {ad : xAd} {H : Heap} {locs : List Loc} {ls : Array Slot} (hI : Iv σ) (hR : RX G L f ad σ) (X : hH G (lwA s) s.heap s (mW G adm σ ++ va_pl L f) H locs) (hl : lv_has ls 4 [(0, .ref b), (1, .ref (ad 0 0 0 0)), (2, .ref (adm 0)), (3, .int (nI (5 * k)))]) : W p l e room_1 s m #[Value.ref b] below meth c H locs (30 + 20 * k) (2900 + 90 * k) (lw_Z below #[Value.ref b] s) (F0 m 704 ls []) := by
  have C0' := C0
  obtain ⟨hx, hb, hr, hml, hown, hts0, hX, hbl, hlocks, hgv⟩ := C0
  have hts : ∀ w ∈ wsL_law, w.before #[Value.ref b] s = true := fun w h => hts0 w (wsL_law_in w h)
  have S : CallFix p m c cL_law 4 s #[Value.ref b] wsL_law RL := ⟨hx, hb, hml, hown, hts⟩
  have hbA : ¬ lwA s b := Nat.not_le.mpr hbl
  refine lv_aload_n hx hb dL_law_704 rfl (lv_at hl 1 rfl) ?_
  refine lv_aload_n hx hb dL_law_705 rfl (lv_at hl 0 rfl) ?_
  refine lv_iload_n hx hb dL_law_706 rfl (lv_at hl 3 rfl) ?_
  refine lv_iconst (v := 1) hx hb dL_law_707 (by decide) ?_
  refine lv_iadd hx hb dL_law_708 ?_
  refine hx_ei (show _ = nI (5 * k + 1) from nI_add (5 * k) 1) ?_
  refine va_sld hx hb hX hbl hbA X.2.2.2.1 (vp_in_nI (by omega) (by omega)) dL_law_709 ?_
  refine hx_ei (show _ = xs (5 * k + 1) from by rw [nI_clamp (by omega)]) ?_
  refine hx_VPi (As := [.int (xs (5 * k + 1))]) (rest := []) S X (c_X6_oldFrames l G L f ad σ (xs (5 * k + 1)) hI.1 hR) gL_law_X6_oldFrames rfl (n := 1) (by decide +kernel) rfl ⟨(Nat.le_of_ble_eq_true rfl), (Nat.le_of_ble_eq_true rfl)⟩ (xp_recv (ci := 6) X.right rfl (rx0 hR).1 (rx0 hR).2) hl.1 rfl (Nat.le_of_ble_eq_true rfl) dL_law_710 ⟨by show 30 + 20 * k + 0 ≤ 600000; omega, by show 2900 + 90 * k + 0 ≤ 7302250; omega⟩ (fun r wd1 H locs hp X => ?_)
  obtain ⟨rfl, L2, f2, ad2, rfl, hR2, h02⟩ := hp
  refine lv_aload_n hx hb dL_law_713 rfl (lv_at hl 2 rfl) ?_
  refine lv_aload_n hx hb dL_law_714 rfl (lv_at hl 0 rfl) ?_
  refine lv_iload_n hx hb dL_law_715 rfl (lv_at hl 3 rfl) ?_
  refine lv_iconst (v := 1) hx hb dL_law_716 (by decide) ?_
  refine lv_iadd hx hb dL_law_717 ?_
  refine hx_ei (show _ = nI (5 * k + 1) from nI_add (5 * k) 1) ?_
  refine va_sld hx hb hX hbl hbA X.2.2.2.1 (vp_in_nI (by omega) (by omega)) dL_law_718 ?_
  refine hx_ei (show _ = xs (5 * k + 1) from by rw [nI_clamp (by omega)]) ?_
  refine hx_VQi (As := [.int (xs (5 * k + 1))]) (rest := [.int (M_oldFrames σ (xs (5 * k + 1))).1]) S X (c_X7_oldFrames l G adm σ (xs (5 * k + 1)) hI.1) gL_law_X7_oldFrames rfl (n := 1) (by decide +kernel) rfl ⟨(Nat.le_of_ble_eq_true rfl), (Nat.le_of_ble_eq_true rfl)⟩ (hx_recvL (q0 := 0) (ci := 7) X rfl rfl) hl.1 rfl (Nat.le_of_ble_eq_true rfl) dL_law_719 ⟨by show 30 + 20 * k + 0 + 0 ≤ 600000; omega, by show 2900 + 90 * k + 0 + 0 ≤ 7302250; omega⟩ (fun r wd1 H locs hp X => ?_)
  obtain ⟨rfl, rfl⟩ := hp
  refine lv_icmp_eq (tgt := 994) hx hb dL_law_722 (by decide) (fun _ => ?_) (fun q => absurd rfl q)
  exact law_tail hLn C0' hk nx (iv_oldFrames hI (xs (5 * k + 1))) hR2 h02 rfl X hl (by show 30 + 20 * k + 0 + 0 ≤ 30 + 20 * (k + 1); omega) (by show 2900 + 90 * k + 0 + 0 ≤ 2900 + 90 * (k + 1); omega)

set_option maxRecDepth 100000 in
set_option maxHeartbeats 4000000 in
theorem law_c19 (hLn : Ln ≤ 2560) (C0 : lw_At p s m meth c b Ln xs) {k : Nat} (hk : 5 * k + 5 ≤ Ln) (nx : lwI p l e s m below meth c G b (k + 1)) {σ : Sg} {adm : Nat → Nat} {L : List Nat} {f : Nat → va_E} {ad : xAd} {H : Heap} {locs : List Loc} {ls : Array Slot} (hI : Iv σ) (hR : RX G L f ad σ) (X : hH G (lwA s) s.heap s (mW G adm σ ++ va_pl L f) H locs) (hl : lv_has ls 4 [(0, .ref b), (1, .ref (ad 0 0 0 0)), (2, .ref (adm 0)), (3, .int (nI (5 * k)))]) : W p l e room_1 s m #[Value.ref b] below meth c H locs (30 + 20 * k) (2900 + 90 * k) (lw_Z below #[Value.ref b] s) (F0 m 727 ls []) := by
  have C0' := C0
  obtain ⟨hx, hb, hr, hml, hown, hts0, hX, hbl, hlocks, hgv⟩ := C0
  have hts : ∀ w ∈ wsL_law, w.before #[Value.ref b] s = true := fun w h => hts0 w (wsL_law_in w h)
  have S : CallFix p m c cL_law 4 s #[Value.ref b] wsL_law RL := ⟨hx, hb, hml, hown, hts⟩
  have hbA : ¬ lwA s b := Nat.not_le.mpr hbl
  refine lv_aload_n hx hb dL_law_727 rfl (lv_at hl 1 rfl) ?_
  refine lv_aload_n hx hb dL_law_728 rfl (lv_at hl 0 rfl) ?_
  refine lv_iload_n hx hb dL_law_729 rfl (lv_at hl 3 rfl) ?_
  refine lv_iconst (v := 1) hx hb dL_law_730 (by decide) ?_
  refine lv_iadd hx hb dL_law_731 ?_
  refine hx_ei (show _ = nI (5 * k + 1) from nI_add (5 * k) 1) ?_
  refine va_sld hx hb hX hbl hbA X.2.2.2.1 (vp_in_nI (by omega) (by omega)) dL_law_732 ?_
  refine hx_ei (show _ = xs (5 * k + 1) from by rw [nI_clamp (by omega)]) ?_
  refine hx_VPi (As := [.int (xs (5 * k + 1))]) (rest := []) S X (c_X6_create l G L f ad σ (xs (5 * k + 1)) hI.1 hR hI.2) gL_law_X6_create rfl (n := 1) (by decide +kernel) rfl ⟨(Nat.le_of_ble_eq_true rfl), (Nat.le_of_ble_eq_true rfl)⟩ (xp_recv (ci := 6) X.right rfl (rx0 hR).1 (rx0 hR).2) hl.1 rfl (Nat.le_of_ble_eq_true rfl) dL_law_733 ⟨by show 30 + 20 * k + 10 ≤ 600000; omega, by show 2900 + 90 * k + 76 ≤ 7302250; omega⟩ (fun r wd1 H locs hp X => ?_)
  obtain ⟨rfl, L2, f2, ad2, rfl, hR2, h02⟩ := hp
  refine lv_aload_n hx hb dL_law_736 rfl (lv_at hl 2 rfl) ?_
  refine lv_aload_n hx hb dL_law_737 rfl (lv_at hl 0 rfl) ?_
  refine lv_iload_n hx hb dL_law_738 rfl (lv_at hl 3 rfl) ?_
  refine lv_iconst (v := 1) hx hb dL_law_739 (by decide) ?_
  refine lv_iadd hx hb dL_law_740 ?_
  refine hx_ei (show _ = nI (5 * k + 1) from nI_add (5 * k) 1) ?_
  refine va_sld hx hb hX hbl hbA X.2.2.2.1 (vp_in_nI (by omega) (by omega)) dL_law_741 ?_
  refine hx_ei (show _ = xs (5 * k + 1) from by rw [nI_clamp (by omega)]) ?_
  refine hx_VQi (As := [.int (xs (5 * k + 1))]) (rest := [.int (M_create σ (xs (5 * k + 1))).1]) S X (c_X7_create l G adm σ (xs (5 * k + 1)) hI.1) gL_law_X7_create rfl (n := 1) (by decide +kernel) rfl ⟨(Nat.le_of_ble_eq_true rfl), (Nat.le_of_ble_eq_true rfl)⟩ (hx_recvL (q0 := 0) (ci := 7) X rfl rfl) hl.1 rfl (Nat.le_of_ble_eq_true rfl) dL_law_742 ⟨by show 30 + 20 * k + 10 + 0 ≤ 600000; omega, by show 2900 + 90 * k + 76 + 0 ≤ 7302250; omega⟩ (fun r wd1 H locs hp X => ?_)
  obtain ⟨rfl, rfl⟩ := hp
  refine lv_icmp_eq (tgt := 994) hx hb dL_law_745 (by decide) (fun _ => ?_) (fun q => absurd rfl q)
  exact law_tail hLn C0' hk nx (iv_create hI (xs (5 * k + 1))) hR2 h02 rfl X hl (by show 30 + 20 * k + 10 + 0 ≤ 30 + 20 * (k + 1); omega) (by show 2900 + 90 * k + 76 + 0 ≤ 2900 + 90 * (k + 1); omega)

set_option maxRecDepth 100000 in
set_option maxHeartbeats 4000000 in
theorem law_c20 (hLn : Ln ≤ 2560) (C0 : lw_At p s m meth c b Ln xs) {k : Nat} (hk : 5 * k + 5 ≤ Ln) (nx : lwI p l e s m below meth c G b (k + 1)) {σ : Sg} {adm : Nat → Nat} {L : List Nat} {f : Nat → va_E} {ad : xAd} {H : Heap} {locs : List Loc} {ls : Array Slot} (hI : Iv σ) (hR : RX G L f ad σ) (X : hH G (lwA s) s.heap s (mW G adm σ ++ va_pl L f) H locs) (hl : lv_has ls 4 [(0, .ref b), (1, .ref (ad 0 0 0 0)), (2, .ref (adm 0)), (3, .int (nI (5 * k)))]) : W p l e room_1 s m #[Value.ref b] below meth c H locs (30 + 20 * k) (2900 + 90 * k) (lw_Z below #[Value.ref b] s) (F0 m 750 ls []) := by
  have C0' := C0
  obtain ⟨hx, hb, hr, hml, hown, hts0, hX, hbl, hlocks, hgv⟩ := C0
  have hts : ∀ w ∈ wsL_law, w.before #[Value.ref b] s = true := fun w h => hts0 w (wsL_law_in w h)
  have S : CallFix p m c cL_law 4 s #[Value.ref b] wsL_law RL := ⟨hx, hb, hml, hown, hts⟩
  have hbA : ¬ lwA s b := Nat.not_le.mpr hbl
  refine lv_aload_n hx hb dL_law_750 rfl (lv_at hl 1 rfl) ?_
  refine lv_aload_n hx hb dL_law_751 rfl (lv_at hl 0 rfl) ?_
  refine lv_iload_n hx hb dL_law_752 rfl (lv_at hl 3 rfl) ?_
  refine lv_iconst (v := 1) hx hb dL_law_753 (by decide) ?_
  refine lv_iadd hx hb dL_law_754 ?_
  refine hx_ei (show _ = nI (5 * k + 1) from nI_add (5 * k) 1) ?_
  refine va_sld hx hb hX hbl hbA X.2.2.2.1 (vp_in_nI (by omega) (by omega)) dL_law_755 ?_
  refine hx_ei (show _ = xs (5 * k + 1) from by rw [nI_clamp (by omega)]) ?_
  refine lv_aload_n hx hb dL_law_756 rfl (lv_at hl 0 rfl) ?_
  refine lv_iload_n hx hb dL_law_757 rfl (lv_at hl 3 rfl) ?_
  refine lv_iconst (v := 2) hx hb dL_law_758 (by decide) ?_
  refine lv_iadd hx hb dL_law_759 ?_
  refine hx_ei (show _ = nI (5 * k + 2) from nI_add (5 * k) 2) ?_
  refine va_sld hx hb hX hbl hbA X.2.2.2.1 (vp_in_nI (by omega) (by omega)) dL_law_760 ?_
  refine hx_ei (show _ = xs (5 * k + 2) from by rw [nI_clamp (by omega)]) ?_
  refine lv_aload_n hx hb dL_law_761 rfl (lv_at hl 0 rfl) ?_
  refine lv_iload_n hx hb dL_law_762 rfl (lv_at hl 3 rfl) ?_
  refine lv_iconst (v := 3) hx hb dL_law_763 (by decide) ?_
  refine lv_iadd hx hb dL_law_764 ?_
  refine hx_ei (show _ = nI (5 * k + 3) from nI_add (5 * k) 3) ?_
  refine va_sld hx hb hX hbl hbA X.2.2.2.1 (vp_in_nI (by omega) (by omega)) dL_law_765 ?_
  refine hx_ei (show _ = xs (5 * k + 3) from by rw [nI_clamp (by omega)]) ?_
  refine hx_VPi (As := [.int (xs (5 * k + 1)), .int (xs (5 * k + 2)), .int (xs (5 * k + 3))]) (rest := []) S X (c_X6_read l G L f ad σ (xs (5 * k + 1)) (xs (5 * k + 2)) (xs (5 * k + 3)) hI.1 hR hI.2) gL_law_X6_read rfl (n := 3) (by decide +kernel) rfl ⟨(Nat.le_of_ble_eq_true rfl), (Nat.le_of_ble_eq_true rfl)⟩ (xp_recv (ci := 6) X.right rfl (rx0 hR).1 (rx0 hR).2) hl.1 rfl (Nat.le_of_ble_eq_true rfl) dL_law_766 ⟨by show 30 + 20 * k + 0 ≤ 600000; omega, by show 2900 + 90 * k + 0 ≤ 7302250; omega⟩ (fun r wd1 H locs hp X => ?_)
  obtain ⟨rfl, L2, f2, ad2, rfl, hR2, h02⟩ := hp
  refine lv_aload_n hx hb dL_law_769 rfl (lv_at hl 2 rfl) ?_
  refine lv_aload_n hx hb dL_law_770 rfl (lv_at hl 0 rfl) ?_
  refine lv_iload_n hx hb dL_law_771 rfl (lv_at hl 3 rfl) ?_
  refine lv_iconst (v := 1) hx hb dL_law_772 (by decide) ?_
  refine lv_iadd hx hb dL_law_773 ?_
  refine hx_ei (show _ = nI (5 * k + 1) from nI_add (5 * k) 1) ?_
  refine va_sld hx hb hX hbl hbA X.2.2.2.1 (vp_in_nI (by omega) (by omega)) dL_law_774 ?_
  refine hx_ei (show _ = xs (5 * k + 1) from by rw [nI_clamp (by omega)]) ?_
  refine lv_aload_n hx hb dL_law_775 rfl (lv_at hl 0 rfl) ?_
  refine lv_iload_n hx hb dL_law_776 rfl (lv_at hl 3 rfl) ?_
  refine lv_iconst (v := 2) hx hb dL_law_777 (by decide) ?_
  refine lv_iadd hx hb dL_law_778 ?_
  refine hx_ei (show _ = nI (5 * k + 2) from nI_add (5 * k) 2) ?_
  refine va_sld hx hb hX hbl hbA X.2.2.2.1 (vp_in_nI (by omega) (by omega)) dL_law_779 ?_
  refine hx_ei (show _ = xs (5 * k + 2) from by rw [nI_clamp (by omega)]) ?_
  refine lv_aload_n hx hb dL_law_780 rfl (lv_at hl 0 rfl) ?_
  refine lv_iload_n hx hb dL_law_781 rfl (lv_at hl 3 rfl) ?_
  refine lv_iconst (v := 3) hx hb dL_law_782 (by decide) ?_
  refine lv_iadd hx hb dL_law_783 ?_
  refine hx_ei (show _ = nI (5 * k + 3) from nI_add (5 * k) 3) ?_
  refine va_sld hx hb hX hbl hbA X.2.2.2.1 (vp_in_nI (by omega) (by omega)) dL_law_784 ?_
  refine hx_ei (show _ = xs (5 * k + 3) from by rw [nI_clamp (by omega)]) ?_
  refine hx_VQi (As := [.int (xs (5 * k + 1)), .int (xs (5 * k + 2)), .int (xs (5 * k + 3))]) (rest := [.int (M_read σ (xs (5 * k + 1)) (xs (5 * k + 2)) (xs (5 * k + 3))).1]) S X (c_X7_read l G adm σ (xs (5 * k + 1)) (xs (5 * k + 2)) (xs (5 * k + 3)) hI.1) gL_law_X7_read rfl (n := 3) (by decide +kernel) rfl ⟨(Nat.le_of_ble_eq_true rfl), (Nat.le_of_ble_eq_true rfl)⟩ (hx_recvL (q0 := 0) (ci := 7) X rfl rfl) hl.1 rfl (Nat.le_of_ble_eq_true rfl) dL_law_785 ⟨by show 30 + 20 * k + 0 + 0 ≤ 600000; omega, by show 2900 + 90 * k + 0 + 0 ≤ 7302250; omega⟩ (fun r wd1 H locs hp X => ?_)
  obtain ⟨rfl, rfl⟩ := hp
  refine lv_icmp_eq (tgt := 994) hx hb dL_law_788 (by decide) (fun _ => ?_) (fun q => absurd rfl q)
  exact law_tail hLn C0' hk nx (iv_read hI (xs (5 * k + 1)) (xs (5 * k + 2)) (xs (5 * k + 3))) hR2 h02 rfl X hl (by show 30 + 20 * k + 0 + 0 ≤ 30 + 20 * (k + 1); omega) (by show 2900 + 90 * k + 0 + 0 ≤ 2900 + 90 * (k + 1); omega)

set_option maxRecDepth 100000 in
set_option maxHeartbeats 4000000 in
theorem law_c21 (hLn : Ln ≤ 2560) (C0 : lw_At p s m meth c b Ln xs) {k : Nat} (hk : 5 * k + 5 ≤ Ln) (nx : lwI p l e s m below meth c G b (k + 1)) {σ : Sg} {adm : Nat → Nat} {L : List Nat} {f : Nat → va_E} {ad : xAd} {H : Heap} {locs : List Loc} {ls : Array Slot} (hI : Iv σ) (hR : RX G L f ad σ) (X : hH G (lwA s) s.heap s (mW G adm σ ++ va_pl L f) H locs) (hl : lv_has ls 4 [(0, .ref b), (1, .ref (ad 0 0 0 0)), (2, .ref (adm 0)), (3, .int (nI (5 * k)))]) : W p l e room_1 s m #[Value.ref b] below meth c H locs (30 + 20 * k) (2900 + 90 * k) (lw_Z below #[Value.ref b] s) (F0 m 793 ls []) := by
  have C0' := C0
  obtain ⟨hx, hb, hr, hml, hown, hts0, hX, hbl, hlocks, hgv⟩ := C0
  have hts : ∀ w ∈ wsL_law, w.before #[Value.ref b] s = true := fun w h => hts0 w (wsL_law_in w h)
  have S : CallFix p m c cL_law 4 s #[Value.ref b] wsL_law RL := ⟨hx, hb, hml, hown, hts⟩
  have hbA : ¬ lwA s b := Nat.not_le.mpr hbl
  refine lv_aload_n hx hb dL_law_793 rfl (lv_at hl 1 rfl) ?_
  refine lv_aload_n hx hb dL_law_794 rfl (lv_at hl 0 rfl) ?_
  refine lv_iload_n hx hb dL_law_795 rfl (lv_at hl 3 rfl) ?_
  refine lv_iconst (v := 1) hx hb dL_law_796 (by decide) ?_
  refine lv_iadd hx hb dL_law_797 ?_
  refine hx_ei (show _ = nI (5 * k + 1) from nI_add (5 * k) 1) ?_
  refine va_sld hx hb hX hbl hbA X.2.2.2.1 (vp_in_nI (by omega) (by omega)) dL_law_798 ?_
  refine hx_ei (show _ = xs (5 * k + 1) from by rw [nI_clamp (by omega)]) ?_
  refine lv_aload_n hx hb dL_law_799 rfl (lv_at hl 0 rfl) ?_
  refine lv_iload_n hx hb dL_law_800 rfl (lv_at hl 3 rfl) ?_
  refine lv_iconst (v := 2) hx hb dL_law_801 (by decide) ?_
  refine lv_iadd hx hb dL_law_802 ?_
  refine hx_ei (show _ = nI (5 * k + 2) from nI_add (5 * k) 2) ?_
  refine va_sld hx hb hX hbl hbA X.2.2.2.1 (vp_in_nI (by omega) (by omega)) dL_law_803 ?_
  refine hx_ei (show _ = xs (5 * k + 2) from by rw [nI_clamp (by omega)]) ?_
  refine lv_aload_n hx hb dL_law_804 rfl (lv_at hl 0 rfl) ?_
  refine lv_iload_n hx hb dL_law_805 rfl (lv_at hl 3 rfl) ?_
  refine lv_iconst (v := 3) hx hb dL_law_806 (by decide) ?_
  refine lv_iadd hx hb dL_law_807 ?_
  refine hx_ei (show _ = nI (5 * k + 3) from nI_add (5 * k) 3) ?_
  refine va_sld hx hb hX hbl hbA X.2.2.2.1 (vp_in_nI (by omega) (by omega)) dL_law_808 ?_
  refine hx_ei (show _ = xs (5 * k + 3) from by rw [nI_clamp (by omega)]) ?_
  refine lv_aload_n hx hb dL_law_809 rfl (lv_at hl 0 rfl) ?_
  refine lv_iload_n hx hb dL_law_810 rfl (lv_at hl 3 rfl) ?_
  refine lv_iconst (v := 4) hx hb dL_law_811 (by decide) ?_
  refine lv_iadd hx hb dL_law_812 ?_
  refine hx_ei (show _ = nI (5 * k + 4) from nI_add (5 * k) 4) ?_
  refine va_sld hx hb hX hbl hbA X.2.2.2.1 (vp_in_nI (by omega) (by omega)) dL_law_813 ?_
  refine hx_ei (show _ = xs (5 * k + 4) from by rw [nI_clamp (by omega)]) ?_
  refine hx_VPi (As := [.int (xs (5 * k + 1)), .int (xs (5 * k + 2)), .int (xs (5 * k + 3)), .int (xs (5 * k + 4))]) (rest := []) S X (c_X6_write l G L f ad σ (xs (5 * k + 1)) (xs (5 * k + 2)) (xs (5 * k + 3)) (xs (5 * k + 4)) hI.1 hR hI.2) gL_law_X6_write rfl (n := 4) (by decide +kernel) rfl ⟨(Nat.le_of_ble_eq_true rfl), (Nat.le_of_ble_eq_true rfl)⟩ (xp_recv (ci := 6) X.right rfl (rx0 hR).1 (rx0 hR).2) hl.1 rfl (Nat.le_of_ble_eq_true rfl) dL_law_814 ⟨by show 30 + 20 * k + 0 ≤ 600000; omega, by show 2900 + 90 * k + 0 ≤ 7302250; omega⟩ (fun r wd1 H locs hp X => ?_)
  obtain ⟨rfl, L2, f2, ad2, rfl, hR2, h02⟩ := hp
  refine lv_aload_n hx hb dL_law_817 rfl (lv_at hl 2 rfl) ?_
  refine lv_aload_n hx hb dL_law_818 rfl (lv_at hl 0 rfl) ?_
  refine lv_iload_n hx hb dL_law_819 rfl (lv_at hl 3 rfl) ?_
  refine lv_iconst (v := 1) hx hb dL_law_820 (by decide) ?_
  refine lv_iadd hx hb dL_law_821 ?_
  refine hx_ei (show _ = nI (5 * k + 1) from nI_add (5 * k) 1) ?_
  refine va_sld hx hb hX hbl hbA X.2.2.2.1 (vp_in_nI (by omega) (by omega)) dL_law_822 ?_
  refine hx_ei (show _ = xs (5 * k + 1) from by rw [nI_clamp (by omega)]) ?_
  refine lv_aload_n hx hb dL_law_823 rfl (lv_at hl 0 rfl) ?_
  refine lv_iload_n hx hb dL_law_824 rfl (lv_at hl 3 rfl) ?_
  refine lv_iconst (v := 2) hx hb dL_law_825 (by decide) ?_
  refine lv_iadd hx hb dL_law_826 ?_
  refine hx_ei (show _ = nI (5 * k + 2) from nI_add (5 * k) 2) ?_
  refine va_sld hx hb hX hbl hbA X.2.2.2.1 (vp_in_nI (by omega) (by omega)) dL_law_827 ?_
  refine hx_ei (show _ = xs (5 * k + 2) from by rw [nI_clamp (by omega)]) ?_
  refine lv_aload_n hx hb dL_law_828 rfl (lv_at hl 0 rfl) ?_
  refine lv_iload_n hx hb dL_law_829 rfl (lv_at hl 3 rfl) ?_
  refine lv_iconst (v := 3) hx hb dL_law_830 (by decide) ?_
  refine lv_iadd hx hb dL_law_831 ?_
  refine hx_ei (show _ = nI (5 * k + 3) from nI_add (5 * k) 3) ?_
  refine va_sld hx hb hX hbl hbA X.2.2.2.1 (vp_in_nI (by omega) (by omega)) dL_law_832 ?_
  refine hx_ei (show _ = xs (5 * k + 3) from by rw [nI_clamp (by omega)]) ?_
  refine lv_aload_n hx hb dL_law_833 rfl (lv_at hl 0 rfl) ?_
  refine lv_iload_n hx hb dL_law_834 rfl (lv_at hl 3 rfl) ?_
  refine lv_iconst (v := 4) hx hb dL_law_835 (by decide) ?_
  refine lv_iadd hx hb dL_law_836 ?_
  refine hx_ei (show _ = nI (5 * k + 4) from nI_add (5 * k) 4) ?_
  refine va_sld hx hb hX hbl hbA X.2.2.2.1 (vp_in_nI (by omega) (by omega)) dL_law_837 ?_
  refine hx_ei (show _ = xs (5 * k + 4) from by rw [nI_clamp (by omega)]) ?_
  refine hx_VQi (As := [.int (xs (5 * k + 1)), .int (xs (5 * k + 2)), .int (xs (5 * k + 3)), .int (xs (5 * k + 4))]) (rest := [.int (M_write σ (xs (5 * k + 1)) (xs (5 * k + 2)) (xs (5 * k + 3)) (xs (5 * k + 4))).1]) S X (c_X7_write l G adm σ (xs (5 * k + 1)) (xs (5 * k + 2)) (xs (5 * k + 3)) (xs (5 * k + 4)) hI.1) gL_law_X7_write rfl (n := 4) (by decide +kernel) rfl ⟨(Nat.le_of_ble_eq_true rfl), (Nat.le_of_ble_eq_true rfl)⟩ (hx_recvL (q0 := 0) (ci := 7) X rfl rfl) hl.1 rfl (Nat.le_of_ble_eq_true rfl) dL_law_838 ⟨by show 30 + 20 * k + 0 + 0 ≤ 600000; omega, by show 2900 + 90 * k + 0 + 0 ≤ 7302250; omega⟩ (fun r wd1 H locs hp X => ?_)
  obtain ⟨rfl, rfl⟩ := hp
  refine lv_icmp_eq (tgt := 994) hx hb dL_law_841 (by decide) (fun _ => ?_) (fun q => absurd rfl q)
  exact law_tail hLn C0' hk nx (iv_write hI (xs (5 * k + 1)) (xs (5 * k + 2)) (xs (5 * k + 3)) (xs (5 * k + 4))) hR2 h02 rfl X hl (by show 30 + 20 * k + 0 + 0 ≤ 30 + 20 * (k + 1); omega) (by show 2900 + 90 * k + 0 + 0 ≤ 2900 + 90 * (k + 1); omega)

set_option maxRecDepth 100000 in
set_option maxHeartbeats 4000000 in
theorem law_c22 (hLn : Ln ≤ 2560) (C0 : lw_At p s m meth c b Ln xs) {k : Nat} (hk : 5 * k + 5 ≤ Ln) (nx : lwI p l e s m below meth c G b (k + 1)) {σ : Sg} {adm : Nat → Nat} {L : List Nat} {f : Nat → va_E} {ad : xAd} {H : Heap} {locs : List Loc} {ls : Array Slot} (hI : Iv σ) (hR : RX G L f ad σ) (X : hH G (lwA s) s.heap s (mW G adm σ ++ va_pl L f) H locs) (hl : lv_has ls 4 [(0, .ref b), (1, .ref (ad 0 0 0 0)), (2, .ref (adm 0)), (3, .int (nI (5 * k)))]) : W p l e room_1 s m #[Value.ref b] below meth c H locs (30 + 20 * k) (2900 + 90 * k) (lw_Z below #[Value.ref b] s) (F0 m 846 ls []) := by
  have C0' := C0
  obtain ⟨hx, hb, hr, hml, hown, hts0, hX, hbl, hlocks, hgv⟩ := C0
  have hts : ∀ w ∈ wsL_law, w.before #[Value.ref b] s = true := fun w h => hts0 w (wsL_law_in w h)
  have S : CallFix p m c cL_law 4 s #[Value.ref b] wsL_law RL := ⟨hx, hb, hml, hown, hts⟩
  have hbA : ¬ lwA s b := Nat.not_le.mpr hbl
  refine lv_aload_n hx hb dL_law_846 rfl (lv_at hl 1 rfl) ?_
  refine lv_aload_n hx hb dL_law_847 rfl (lv_at hl 0 rfl) ?_
  refine lv_iload_n hx hb dL_law_848 rfl (lv_at hl 3 rfl) ?_
  refine lv_iconst (v := 1) hx hb dL_law_849 (by decide) ?_
  refine lv_iadd hx hb dL_law_850 ?_
  refine hx_ei (show _ = nI (5 * k + 1) from nI_add (5 * k) 1) ?_
  refine va_sld hx hb hX hbl hbA X.2.2.2.1 (vp_in_nI (by omega) (by omega)) dL_law_851 ?_
  refine hx_ei (show _ = xs (5 * k + 1) from by rw [nI_clamp (by omega)]) ?_
  refine lv_aload_n hx hb dL_law_852 rfl (lv_at hl 0 rfl) ?_
  refine lv_iload_n hx hb dL_law_853 rfl (lv_at hl 3 rfl) ?_
  refine lv_iconst (v := 2) hx hb dL_law_854 (by decide) ?_
  refine lv_iadd hx hb dL_law_855 ?_
  refine hx_ei (show _ = nI (5 * k + 2) from nI_add (5 * k) 2) ?_
  refine va_sld hx hb hX hbl hbA X.2.2.2.1 (vp_in_nI (by omega) (by omega)) dL_law_856 ?_
  refine hx_ei (show _ = xs (5 * k + 2) from by rw [nI_clamp (by omega)]) ?_
  refine hx_VPi (As := [.int (xs (5 * k + 1)), .int (xs (5 * k + 2))]) (rest := []) S X (c_X6_peek l G L f ad σ (xs (5 * k + 1)) (xs (5 * k + 2)) hI.1 hR) gL_law_X6_peek rfl (n := 2) (by decide +kernel) rfl ⟨(Nat.le_of_ble_eq_true rfl), (Nat.le_of_ble_eq_true rfl)⟩ (xp_recv (ci := 6) X.right rfl (rx0 hR).1 (rx0 hR).2) hl.1 rfl (Nat.le_of_ble_eq_true rfl) dL_law_857 ⟨by show 30 + 20 * k + 0 ≤ 600000; omega, by show 2900 + 90 * k + 0 ≤ 7302250; omega⟩ (fun r wd1 H locs hp X => ?_)
  obtain ⟨rfl, L2, f2, ad2, rfl, hR2, h02⟩ := hp
  refine lv_aload_n hx hb dL_law_860 rfl (lv_at hl 2 rfl) ?_
  refine lv_aload_n hx hb dL_law_861 rfl (lv_at hl 0 rfl) ?_
  refine lv_iload_n hx hb dL_law_862 rfl (lv_at hl 3 rfl) ?_
  refine lv_iconst (v := 1) hx hb dL_law_863 (by decide) ?_
  refine lv_iadd hx hb dL_law_864 ?_
  refine hx_ei (show _ = nI (5 * k + 1) from nI_add (5 * k) 1) ?_
  refine va_sld hx hb hX hbl hbA X.2.2.2.1 (vp_in_nI (by omega) (by omega)) dL_law_865 ?_
  refine hx_ei (show _ = xs (5 * k + 1) from by rw [nI_clamp (by omega)]) ?_
  refine lv_aload_n hx hb dL_law_866 rfl (lv_at hl 0 rfl) ?_
  refine lv_iload_n hx hb dL_law_867 rfl (lv_at hl 3 rfl) ?_
  refine lv_iconst (v := 2) hx hb dL_law_868 (by decide) ?_
  refine lv_iadd hx hb dL_law_869 ?_
  refine hx_ei (show _ = nI (5 * k + 2) from nI_add (5 * k) 2) ?_
  refine va_sld hx hb hX hbl hbA X.2.2.2.1 (vp_in_nI (by omega) (by omega)) dL_law_870 ?_
  refine hx_ei (show _ = xs (5 * k + 2) from by rw [nI_clamp (by omega)]) ?_
  refine hx_VQi (As := [.int (xs (5 * k + 1)), .int (xs (5 * k + 2))]) (rest := [.int (M_peek σ (xs (5 * k + 1)) (xs (5 * k + 2))).1]) S X (c_X7_peek l G adm σ (xs (5 * k + 1)) (xs (5 * k + 2)) hI.1) gL_law_X7_peek rfl (n := 2) (by decide +kernel) rfl ⟨(Nat.le_of_ble_eq_true rfl), (Nat.le_of_ble_eq_true rfl)⟩ (hx_recvL (q0 := 0) (ci := 7) X rfl rfl) hl.1 rfl (Nat.le_of_ble_eq_true rfl) dL_law_871 ⟨by show 30 + 20 * k + 0 + 0 ≤ 600000; omega, by show 2900 + 90 * k + 0 + 0 ≤ 7302250; omega⟩ (fun r wd1 H locs hp X => ?_)
  obtain ⟨rfl, rfl⟩ := hp
  refine lv_icmp_eq (tgt := 994) hx hb dL_law_874 (by decide) (fun _ => ?_) (fun q => absurd rfl q)
  exact law_tail hLn C0' hk nx (iv_peek hI (xs (5 * k + 1)) (xs (5 * k + 2))) hR2 h02 rfl X hl (by show 30 + 20 * k + 0 + 0 ≤ 30 + 20 * (k + 1); omega) (by show 2900 + 90 * k + 0 + 0 ≤ 2900 + 90 * (k + 1); omega)

set_option maxRecDepth 100000 in
set_option maxHeartbeats 4000000 in
theorem law_c23 (hLn : Ln ≤ 2560) (C0 : lw_At p s m meth c b Ln xs) {k : Nat} (hk : 5 * k + 5 ≤ Ln) (nx : lwI p l e s m below meth c G b (k + 1)) {σ : Sg} {adm : Nat → Nat} {L : List Nat} {f : Nat → va_E} {ad : xAd} {H : Heap} {locs : List Loc} {ls : Array Slot} (hI : Iv σ) (hR : RX G L f ad σ) (X : hH G (lwA s) s.heap s (mW G adm σ ++ va_pl L f) H locs) (hl : lv_has ls 4 [(0, .ref b), (1, .ref (ad 0 0 0 0)), (2, .ref (adm 0)), (3, .int (nI (5 * k)))]) : W p l e room_1 s m #[Value.ref b] below meth c H locs (30 + 20 * k) (2900 + 90 * k) (lw_Z below #[Value.ref b] s) (F0 m 879 ls []) := by
  have C0' := C0
  obtain ⟨hx, hb, hr, hml, hown, hts0, hX, hbl, hlocks, hgv⟩ := C0
  have hts : ∀ w ∈ wsL_law, w.before #[Value.ref b] s = true := fun w h => hts0 w (wsL_law_in w h)
  have S : CallFix p m c cL_law 4 s #[Value.ref b] wsL_law RL := ⟨hx, hb, hml, hown, hts⟩
  have hbA : ¬ lwA s b := Nat.not_le.mpr hbl
  refine lv_aload_n hx hb dL_law_879 rfl (lv_at hl 1 rfl) ?_
  refine lv_aload_n hx hb dL_law_880 rfl (lv_at hl 0 rfl) ?_
  refine lv_iload_n hx hb dL_law_881 rfl (lv_at hl 3 rfl) ?_
  refine lv_iconst (v := 1) hx hb dL_law_882 (by decide) ?_
  refine lv_iadd hx hb dL_law_883 ?_
  refine hx_ei (show _ = nI (5 * k + 1) from nI_add (5 * k) 1) ?_
  refine va_sld hx hb hX hbl hbA X.2.2.2.1 (vp_in_nI (by omega) (by omega)) dL_law_884 ?_
  refine hx_ei (show _ = xs (5 * k + 1) from by rw [nI_clamp (by omega)]) ?_
  refine hx_VPi (As := [.int (xs (5 * k + 1))]) (rest := []) S X (c_X6_objectVersion l G L f ad σ (xs (5 * k + 1)) hI.1 hR) gL_law_X6_objectVersion rfl (n := 1) (by decide +kernel) rfl ⟨(Nat.le_of_ble_eq_true rfl), (Nat.le_of_ble_eq_true rfl)⟩ (xp_recv (ci := 6) X.right rfl (rx0 hR).1 (rx0 hR).2) hl.1 rfl (Nat.le_of_ble_eq_true rfl) dL_law_885 ⟨by show 30 + 20 * k + 0 ≤ 600000; omega, by show 2900 + 90 * k + 0 ≤ 7302250; omega⟩ (fun r wd1 H locs hp X => ?_)
  obtain ⟨rfl, L2, f2, ad2, rfl, hR2, h02⟩ := hp
  refine lv_aload_n hx hb dL_law_888 rfl (lv_at hl 2 rfl) ?_
  refine lv_aload_n hx hb dL_law_889 rfl (lv_at hl 0 rfl) ?_
  refine lv_iload_n hx hb dL_law_890 rfl (lv_at hl 3 rfl) ?_
  refine lv_iconst (v := 1) hx hb dL_law_891 (by decide) ?_
  refine lv_iadd hx hb dL_law_892 ?_
  refine hx_ei (show _ = nI (5 * k + 1) from nI_add (5 * k) 1) ?_
  refine va_sld hx hb hX hbl hbA X.2.2.2.1 (vp_in_nI (by omega) (by omega)) dL_law_893 ?_
  refine hx_ei (show _ = xs (5 * k + 1) from by rw [nI_clamp (by omega)]) ?_
  refine hx_VQi (As := [.int (xs (5 * k + 1))]) (rest := [.int (M_objectVersion σ (xs (5 * k + 1))).1]) S X (c_X7_objectVersion l G adm σ (xs (5 * k + 1)) hI.1) gL_law_X7_objectVersion rfl (n := 1) (by decide +kernel) rfl ⟨(Nat.le_of_ble_eq_true rfl), (Nat.le_of_ble_eq_true rfl)⟩ (hx_recvL (q0 := 0) (ci := 7) X rfl rfl) hl.1 rfl (Nat.le_of_ble_eq_true rfl) dL_law_894 ⟨by show 30 + 20 * k + 0 + 0 ≤ 600000; omega, by show 2900 + 90 * k + 0 + 0 ≤ 7302250; omega⟩ (fun r wd1 H locs hp X => ?_)
  obtain ⟨rfl, rfl⟩ := hp
  refine lv_icmp_eq (tgt := 994) hx hb dL_law_897 (by decide) (fun _ => ?_) (fun q => absurd rfl q)
  exact law_tail hLn C0' hk nx (iv_objectVersion hI (xs (5 * k + 1))) hR2 h02 rfl X hl (by show 30 + 20 * k + 0 + 0 ≤ 30 + 20 * (k + 1); omega) (by show 2900 + 90 * k + 0 + 0 ≤ 2900 + 90 * (k + 1); omega)

set_option maxRecDepth 100000 in
set_option maxHeartbeats 4000000 in
theorem law_c24 (hLn : Ln ≤ 2560) (C0 : lw_At p s m meth c b Ln xs) {k : Nat} (hk : 5 * k + 5 ≤ Ln) (nx : lwI p l e s m below meth c G b (k + 1)) {σ : Sg} {adm : Nat → Nat} {L : List Nat} {f : Nat → va_E} {ad : xAd} {H : Heap} {locs : List Loc} {ls : Array Slot} (hI : Iv σ) (hR : RX G L f ad σ) (X : hH G (lwA s) s.heap s (mW G adm σ ++ va_pl L f) H locs) (hl : lv_has ls 4 [(0, .ref b), (1, .ref (ad 0 0 0 0)), (2, .ref (adm 0)), (3, .int (nI (5 * k)))]) : W p l e room_1 s m #[Value.ref b] below meth c H locs (30 + 20 * k) (2900 + 90 * k) (lw_Z below #[Value.ref b] s) (F0 m 902 ls []) := by
  have C0' := C0
  obtain ⟨hx, hb, hr, hml, hown, hts0, hX, hbl, hlocks, hgv⟩ := C0
  have hts : ∀ w ∈ wsL_law, w.before #[Value.ref b] s = true := fun w h => hts0 w (wsL_law_in w h)
  have S : CallFix p m c cL_law 4 s #[Value.ref b] wsL_law RL := ⟨hx, hb, hml, hown, hts⟩
  have hbA : ¬ lwA s b := Nat.not_le.mpr hbl
  refine lv_aload_n hx hb dL_law_902 rfl (lv_at hl 1 rfl) ?_
  refine lv_aload_n hx hb dL_law_903 rfl (lv_at hl 0 rfl) ?_
  refine lv_iload_n hx hb dL_law_904 rfl (lv_at hl 3 rfl) ?_
  refine lv_iconst (v := 1) hx hb dL_law_905 (by decide) ?_
  refine lv_iadd hx hb dL_law_906 ?_
  refine hx_ei (show _ = nI (5 * k + 1) from nI_add (5 * k) 1) ?_
  refine va_sld hx hb hX hbl hbA X.2.2.2.1 (vp_in_nI (by omega) (by omega)) dL_law_907 ?_
  refine hx_ei (show _ = xs (5 * k + 1) from by rw [nI_clamp (by omega)]) ?_
  refine hx_VPi (As := [.int (xs (5 * k + 1))]) (rest := []) S X (c_X6_conversions l G L f ad σ (xs (5 * k + 1)) hI.1 hR) gL_law_X6_conversions rfl (n := 1) (by decide +kernel) rfl ⟨(Nat.le_of_ble_eq_true rfl), (Nat.le_of_ble_eq_true rfl)⟩ (xp_recv (ci := 6) X.right rfl (rx0 hR).1 (rx0 hR).2) hl.1 rfl (Nat.le_of_ble_eq_true rfl) dL_law_908 ⟨by show 30 + 20 * k + 0 ≤ 600000; omega, by show 2900 + 90 * k + 0 ≤ 7302250; omega⟩ (fun r wd1 H locs hp X => ?_)
  obtain ⟨rfl, L2, f2, ad2, rfl, hR2, h02⟩ := hp
  refine lv_aload_n hx hb dL_law_911 rfl (lv_at hl 2 rfl) ?_
  refine lv_aload_n hx hb dL_law_912 rfl (lv_at hl 0 rfl) ?_
  refine lv_iload_n hx hb dL_law_913 rfl (lv_at hl 3 rfl) ?_
  refine lv_iconst (v := 1) hx hb dL_law_914 (by decide) ?_
  refine lv_iadd hx hb dL_law_915 ?_
  refine hx_ei (show _ = nI (5 * k + 1) from nI_add (5 * k) 1) ?_
  refine va_sld hx hb hX hbl hbA X.2.2.2.1 (vp_in_nI (by omega) (by omega)) dL_law_916 ?_
  refine hx_ei (show _ = xs (5 * k + 1) from by rw [nI_clamp (by omega)]) ?_
  refine hx_VQi (As := [.int (xs (5 * k + 1))]) (rest := [.int (M_conversions σ (xs (5 * k + 1))).1]) S X (c_X7_conversions l G adm σ (xs (5 * k + 1)) hI.1) gL_law_X7_conversions rfl (n := 1) (by decide +kernel) rfl ⟨(Nat.le_of_ble_eq_true rfl), (Nat.le_of_ble_eq_true rfl)⟩ (hx_recvL (q0 := 0) (ci := 7) X rfl rfl) hl.1 rfl (Nat.le_of_ble_eq_true rfl) dL_law_917 ⟨by show 30 + 20 * k + 0 + 0 ≤ 600000; omega, by show 2900 + 90 * k + 0 + 0 ≤ 7302250; omega⟩ (fun r wd1 H locs hp X => ?_)
  obtain ⟨rfl, rfl⟩ := hp
  refine lv_icmp_eq (tgt := 994) hx hb dL_law_920 (by decide) (fun _ => ?_) (fun q => absurd rfl q)
  exact law_tail hLn C0' hk nx (iv_conversions hI (xs (5 * k + 1))) hR2 h02 rfl X hl (by show 30 + 20 * k + 0 + 0 ≤ 30 + 20 * (k + 1); omega) (by show 2900 + 90 * k + 0 + 0 ≤ 2900 + 90 * (k + 1); omega)

set_option maxRecDepth 100000 in
set_option maxHeartbeats 4000000 in
theorem law_c25 (hLn : Ln ≤ 2560) (C0 : lw_At p s m meth c b Ln xs) {k : Nat} (hk : 5 * k + 5 ≤ Ln) (nx : lwI p l e s m below meth c G b (k + 1)) {σ : Sg} {adm : Nat → Nat} {L : List Nat} {f : Nat → va_E} {ad : xAd} {H : Heap} {locs : List Loc} {ls : Array Slot} (hI : Iv σ) (hR : RX G L f ad σ) (X : hH G (lwA s) s.heap s (mW G adm σ ++ va_pl L f) H locs) (hl : lv_has ls 4 [(0, .ref b), (1, .ref (ad 0 0 0 0)), (2, .ref (adm 0)), (3, .int (nI (5 * k)))]) : W p l e room_1 s m #[Value.ref b] below meth c H locs (30 + 20 * k) (2900 + 90 * k) (lw_Z below #[Value.ref b] s) (F0 m 925 ls []) := by
  have C0' := C0
  obtain ⟨hx, hb, hr, hml, hown, hts0, hX, hbl, hlocks, hgv⟩ := C0
  have hts : ∀ w ∈ wsL_law, w.before #[Value.ref b] s = true := fun w h => hts0 w (wsL_law_in w h)
  have S : CallFix p m c cL_law 4 s #[Value.ref b] wsL_law RL := ⟨hx, hb, hml, hown, hts⟩
  have hbA : ¬ lwA s b := Nat.not_le.mpr hbl
  refine lv_aload_n hx hb dL_law_925 rfl (lv_at hl 1 rfl) ?_
  refine lv_aload_n hx hb dL_law_926 rfl (lv_at hl 0 rfl) ?_
  refine lv_iload_n hx hb dL_law_927 rfl (lv_at hl 3 rfl) ?_
  refine lv_iconst (v := 1) hx hb dL_law_928 (by decide) ?_
  refine lv_iadd hx hb dL_law_929 ?_
  refine hx_ei (show _ = nI (5 * k + 1) from nI_add (5 * k) 1) ?_
  refine va_sld hx hb hX hbl hbA X.2.2.2.1 (vp_in_nI (by omega) (by omega)) dL_law_930 ?_
  refine hx_ei (show _ = xs (5 * k + 1) from by rw [nI_clamp (by omega)]) ?_
  refine hx_VPi (As := [.int (xs (5 * k + 1))]) (rest := []) S X (c_X6_pinnedBy l G L f ad σ (xs (5 * k + 1)) hI.1 hR) gL_law_X6_pinnedBy rfl (n := 1) (by decide +kernel) rfl ⟨(Nat.le_of_ble_eq_true rfl), (Nat.le_of_ble_eq_true rfl)⟩ (xp_recv (ci := 6) X.right rfl (rx0 hR).1 (rx0 hR).2) hl.1 rfl (Nat.le_of_ble_eq_true rfl) dL_law_931 ⟨by show 30 + 20 * k + 0 ≤ 600000; omega, by show 2900 + 90 * k + 0 ≤ 7302250; omega⟩ (fun r wd1 H locs hp X => ?_)
  obtain ⟨rfl, L2, f2, ad2, rfl, hR2, h02⟩ := hp
  refine lv_aload_n hx hb dL_law_934 rfl (lv_at hl 2 rfl) ?_
  refine lv_aload_n hx hb dL_law_935 rfl (lv_at hl 0 rfl) ?_
  refine lv_iload_n hx hb dL_law_936 rfl (lv_at hl 3 rfl) ?_
  refine lv_iconst (v := 1) hx hb dL_law_937 (by decide) ?_
  refine lv_iadd hx hb dL_law_938 ?_
  refine hx_ei (show _ = nI (5 * k + 1) from nI_add (5 * k) 1) ?_
  refine va_sld hx hb hX hbl hbA X.2.2.2.1 (vp_in_nI (by omega) (by omega)) dL_law_939 ?_
  refine hx_ei (show _ = xs (5 * k + 1) from by rw [nI_clamp (by omega)]) ?_
  refine hx_VQi (As := [.int (xs (5 * k + 1))]) (rest := [.int (M_pinnedBy σ (xs (5 * k + 1))).1]) S X (c_X7_pinnedBy l G adm σ (xs (5 * k + 1)) hI.1) gL_law_X7_pinnedBy rfl (n := 1) (by decide +kernel) rfl ⟨(Nat.le_of_ble_eq_true rfl), (Nat.le_of_ble_eq_true rfl)⟩ (hx_recvL (q0 := 0) (ci := 7) X rfl rfl) hl.1 rfl (Nat.le_of_ble_eq_true rfl) dL_law_940 ⟨by show 30 + 20 * k + 0 + 0 ≤ 600000; omega, by show 2900 + 90 * k + 0 + 0 ≤ 7302250; omega⟩ (fun r wd1 H locs hp X => ?_)
  obtain ⟨rfl, rfl⟩ := hp
  refine lv_icmp_eq (tgt := 994) hx hb dL_law_943 (by decide) (fun _ => ?_) (fun q => absurd rfl q)
  exact law_tail hLn C0' hk nx (iv_pinnedBy hI (xs (5 * k + 1))) hR2 h02 rfl X hl (by show 30 + 20 * k + 0 + 0 ≤ 30 + 20 * (k + 1); omega) (by show 2900 + 90 * k + 0 + 0 ≤ 2900 + 90 * (k + 1); omega)

set_option maxRecDepth 100000 in
set_option maxHeartbeats 4000000 in
theorem law_c26 (hLn : Ln ≤ 2560) (C0 : lw_At p s m meth c b Ln xs) {k : Nat} (hk : 5 * k + 5 ≤ Ln) (nx : lwI p l e s m below meth c G b (k + 1)) {σ : Sg} {adm : Nat → Nat} {L : List Nat} {f : Nat → va_E} {ad : xAd} {H : Heap} {locs : List Loc} {ls : Array Slot} (hI : Iv σ) (hR : RX G L f ad σ) (X : hH G (lwA s) s.heap s (mW G adm σ ++ va_pl L f) H locs) (hl : lv_has ls 4 [(0, .ref b), (1, .ref (ad 0 0 0 0)), (2, .ref (adm 0)), (3, .int (nI (5 * k)))]) : W p l e room_1 s m #[Value.ref b] below meth c H locs (30 + 20 * k) (2900 + 90 * k) (lw_Z below #[Value.ref b] s) (F0 m 948 ls []) := by
  have C0' := C0
  obtain ⟨hx, hb, hr, hml, hown, hts0, hX, hbl, hlocks, hgv⟩ := C0
  have hts : ∀ w ∈ wsL_law, w.before #[Value.ref b] s = true := fun w h => hts0 w (wsL_law_in w h)
  have S : CallFix p m c cL_law 4 s #[Value.ref b] wsL_law RL := ⟨hx, hb, hml, hown, hts⟩
  have hbA : ¬ lwA s b := Nat.not_le.mpr hbl
  refine lv_aload_n hx hb dL_law_948 rfl (lv_at hl 1 rfl) ?_
  refine lv_aload_n hx hb dL_law_949 rfl (lv_at hl 0 rfl) ?_
  refine lv_iload_n hx hb dL_law_950 rfl (lv_at hl 3 rfl) ?_
  refine lv_iconst (v := 1) hx hb dL_law_951 (by decide) ?_
  refine lv_iadd hx hb dL_law_952 ?_
  refine hx_ei (show _ = nI (5 * k + 1) from nI_add (5 * k) 1) ?_
  refine va_sld hx hb hX hbl hbA X.2.2.2.1 (vp_in_nI (by omega) (by omega)) dL_law_953 ?_
  refine hx_ei (show _ = xs (5 * k + 1) from by rw [nI_clamp (by omega)]) ?_
  refine hx_VPi (As := [.int (xs (5 * k + 1))]) (rest := []) S X (c_X6_outdated l G L f ad σ (xs (5 * k + 1)) hI.1 hR) gL_law_X6_outdated rfl (n := 1) (by decide +kernel) rfl ⟨(Nat.le_of_ble_eq_true rfl), (Nat.le_of_ble_eq_true rfl)⟩ (xp_recv (ci := 6) X.right rfl (rx0 hR).1 (rx0 hR).2) hl.1 rfl (Nat.le_of_ble_eq_true rfl) dL_law_954 ⟨by show 30 + 20 * k + 0 ≤ 600000; omega, by show 2900 + 90 * k + 0 ≤ 7302250; omega⟩ (fun r wd1 H locs hp X => ?_)
  obtain ⟨rfl, L2, f2, ad2, rfl, hR2, h02⟩ := hp
  refine lv_aload_n hx hb dL_law_957 rfl (lv_at hl 2 rfl) ?_
  refine lv_aload_n hx hb dL_law_958 rfl (lv_at hl 0 rfl) ?_
  refine lv_iload_n hx hb dL_law_959 rfl (lv_at hl 3 rfl) ?_
  refine lv_iconst (v := 1) hx hb dL_law_960 (by decide) ?_
  refine lv_iadd hx hb dL_law_961 ?_
  refine hx_ei (show _ = nI (5 * k + 1) from nI_add (5 * k) 1) ?_
  refine va_sld hx hb hX hbl hbA X.2.2.2.1 (vp_in_nI (by omega) (by omega)) dL_law_962 ?_
  refine hx_ei (show _ = xs (5 * k + 1) from by rw [nI_clamp (by omega)]) ?_
  refine hx_VQi (As := [.int (xs (5 * k + 1))]) (rest := [.int (M_outdated σ (xs (5 * k + 1))).1]) S X (c_X7_outdated l G adm σ (xs (5 * k + 1)) hI.1) gL_law_X7_outdated rfl (n := 1) (by decide +kernel) rfl ⟨(Nat.le_of_ble_eq_true rfl), (Nat.le_of_ble_eq_true rfl)⟩ (hx_recvL (q0 := 0) (ci := 7) X rfl rfl) hl.1 rfl (Nat.le_of_ble_eq_true rfl) dL_law_963 ⟨by show 30 + 20 * k + 0 + 0 ≤ 600000; omega, by show 2900 + 90 * k + 0 + 0 ≤ 7302250; omega⟩ (fun r wd1 H locs hp X => ?_)
  obtain ⟨rfl, rfl⟩ := hp
  refine lv_icmp_eq (tgt := 994) hx hb dL_law_966 (by decide) (fun _ => ?_) (fun q => absurd rfl q)
  exact law_tail hLn C0' hk nx (iv_outdated hI (xs (5 * k + 1))) hR2 h02 rfl X hl (by show 30 + 20 * k + 0 + 0 ≤ 30 + 20 * (k + 1); omega) (by show 2900 + 90 * k + 0 + 0 ≤ 2900 + 90 * (k + 1); omega)

set_option maxRecDepth 100000 in
set_option maxHeartbeats 4000000 in
theorem law_c27 (hLn : Ln ≤ 2560) (C0 : lw_At p s m meth c b Ln xs) {k : Nat} (hk : 5 * k + 5 ≤ Ln) (nx : lwI p l e s m below meth c G b (k + 1)) {σ : Sg} {adm : Nat → Nat} {L : List Nat} {f : Nat → va_E} {ad : xAd} {H : Heap} {locs : List Loc} {ls : Array Slot} (hI : Iv σ) (hR : RX G L f ad σ) (X : hH G (lwA s) s.heap s (mW G adm σ ++ va_pl L f) H locs) (hl : lv_has ls 4 [(0, .ref b), (1, .ref (ad 0 0 0 0)), (2, .ref (adm 0)), (3, .int (nI (5 * k)))]) : W p l e room_1 s m #[Value.ref b] below meth c H locs (30 + 20 * k) (2900 + 90 * k) (lw_Z below #[Value.ref b] s) (F0 m 971 ls []) := by
  have C0' := C0
  obtain ⟨hx, hb, hr, hml, hown, hts0, hX, hbl, hlocks, hgv⟩ := C0
  have hts : ∀ w ∈ wsL_law, w.before #[Value.ref b] s = true := fun w h => hts0 w (wsL_law_in w h)
  have S : CallFix p m c cL_law 4 s #[Value.ref b] wsL_law RL := ⟨hx, hb, hml, hown, hts⟩
  have hbA : ¬ lwA s b := Nat.not_le.mpr hbl
  refine lv_aload_n hx hb dL_law_971 rfl (lv_at hl 1 rfl) ?_
  refine lv_aload_n hx hb dL_law_972 rfl (lv_at hl 0 rfl) ?_
  refine lv_iload_n hx hb dL_law_973 rfl (lv_at hl 3 rfl) ?_
  refine lv_iconst (v := 1) hx hb dL_law_974 (by decide) ?_
  refine lv_iadd hx hb dL_law_975 ?_
  refine hx_ei (show _ = nI (5 * k + 1) from nI_add (5 * k) 1) ?_
  refine va_sld hx hb hX hbl hbA X.2.2.2.1 (vp_in_nI (by omega) (by omega)) dL_law_976 ?_
  refine hx_ei (show _ = xs (5 * k + 1) from by rw [nI_clamp (by omega)]) ?_
  refine hx_VPi (As := [.int (xs (5 * k + 1))]) (rest := []) S X (c_X6_convertAll l G L f ad σ (xs (5 * k + 1)) hI.1 hR hI.2) gL_law_X6_convertAll rfl (n := 1) (by decide +kernel) rfl ⟨(Nat.le_of_ble_eq_true rfl), (Nat.le_of_ble_eq_true rfl)⟩ (xp_recv (ci := 6) X.right rfl (rx0 hR).1 (rx0 hR).2) hl.1 rfl (Nat.le_of_ble_eq_true rfl) dL_law_977 ⟨by show 30 + 20 * k + 0 ≤ 600000; omega, by show 2900 + 90 * k + 0 ≤ 7302250; omega⟩ (fun r wd1 H locs hp X => ?_)
  obtain ⟨rfl, L2, f2, ad2, rfl, hR2, h02⟩ := hp
  refine lv_aload_n hx hb dL_law_980 rfl (lv_at hl 2 rfl) ?_
  refine lv_aload_n hx hb dL_law_981 rfl (lv_at hl 0 rfl) ?_
  refine lv_iload_n hx hb dL_law_982 rfl (lv_at hl 3 rfl) ?_
  refine lv_iconst (v := 1) hx hb dL_law_983 (by decide) ?_
  refine lv_iadd hx hb dL_law_984 ?_
  refine hx_ei (show _ = nI (5 * k + 1) from nI_add (5 * k) 1) ?_
  refine va_sld hx hb hX hbl hbA X.2.2.2.1 (vp_in_nI (by omega) (by omega)) dL_law_985 ?_
  refine hx_ei (show _ = xs (5 * k + 1) from by rw [nI_clamp (by omega)]) ?_
  refine hx_VQi (As := [.int (xs (5 * k + 1))]) (rest := [.int (M_convertAll σ (xs (5 * k + 1))).1]) S X (c_X7_convertAll l G adm σ (xs (5 * k + 1)) hI.1 hI.2) gL_law_X7_convertAll rfl (n := 1) (by decide +kernel) rfl ⟨(Nat.le_of_ble_eq_true rfl), (Nat.le_of_ble_eq_true rfl)⟩ (hx_recvL (q0 := 0) (ci := 7) X rfl rfl) hl.1 rfl (Nat.le_of_ble_eq_true rfl) dL_law_986 ⟨by show 30 + 20 * k + 0 + 0 ≤ 600000; omega, by show 2900 + 90 * k + 0 + 0 ≤ 7302250; omega⟩ (fun r wd1 H locs hp X => ?_)
  obtain ⟨rfl, rfl⟩ := hp
  refine lv_icmp_eq (tgt := 994) hx hb dL_law_989 (by decide) (fun _ => ?_) (fun q => absurd rfl q)
  exact law_tail hLn C0' hk nx (iv_convertAll hI (xs (5 * k + 1))) hR2 h02 rfl X hl (by show 30 + 20 * k + 0 + 0 ≤ 30 + 20 * (k + 1); omega) (by show 2900 + 90 * k + 0 + 0 ≤ 2900 + 90 * (k + 1); omega)

set_option maxRecDepth 100000 in
set_option maxHeartbeats 4000000 in
theorem law_head (hLn : Ln ≤ 2560) (C0 : lw_At p s m meth c b Ln xs) {k : Nat} (hk5 : 5 * k ≤ Ln + 5) (nxt : 5 * k + 5 ≤ Ln → lwI p l e s m below meth c G b (k + 1)) : lwI p l e s m below meth c G b k := by
  intro σ adm L f ad H locs ls hI hR X hl
  have C0' := C0
  obtain ⟨hx, hb, hr, hml, hown, hts0, hX, hbl, hlocks, hgv⟩ := C0
  have hts : ∀ w ∈ wsL_law, w.before #[Value.ref b] s = true := fun w h => hts0 w (wsL_law_in w h)
  have S : CallFix p m c cL_law 4 s #[Value.ref b] wsL_law RL := ⟨hx, hb, hml, hown, hts⟩
  have hbA : ¬ lwA s b := Nat.not_le.mpr hbl
  refine lv_iload_n hx hb dL_law_18 rfl (lv_at hl 3 rfl) ?_
  refine lv_aload_n hx hb dL_law_19 rfl (lv_at hl 0 rfl) ?_
  refine va_slen hx hb hX hbl hbA X.2.2.2.1 dL_law_20 ?_
  refine lv_iconst (v := 5) hx hb dL_law_21 (by decide) ?_
  refine lv_isub hx hb dL_law_22 ?_
  refine lv_icmp_gt (tgt := 1000) hx hb dL_law_23 (by decide) (fun c23 => ?_) (fun c23 => ?_)
  · refine lv_iconst (v := 1) hx hb dL_law_1000 (by decide) ?_
    refine va_forget (fun q hq => X.2.2.2.1.2.2 q hq) ?_
    refine W.widen (k := 600000) (n := 7302250) (by omega) (by omega) ?_
    exact lw_ret hx hb hr hlocks dL_law_1001
  have hk := head_gt (by omega) hLn c23
  have nx := nxt hk
  refine lv_aload_n hx hb dL_law_26 rfl (lv_at hl 0 rfl) ?_
  refine lv_iload_n hx hb dL_law_27 rfl (lv_at hl 3 rfl) ?_
  refine va_sld hx hb hX hbl hbA X.2.2.2.1 (vp_in_nI (by omega) (by omega)) dL_law_28 ?_
  refine lv_bipush (v := 31) hx hb dL_law_29 (by decide) ?_
  refine lv_iand hx hb dL_law_31 ?_
  obtain ⟨z, hz, ez⟩ := and31 (xs (nI (5 * k)).toNatClampNeg)
  refine hx_ei (show _ = nI z from ez) ?_
  have cases32 : z = 0 ∨ z = 1 ∨ z = 2 ∨ z = 3 ∨ z = 4 ∨ z = 5 ∨ z = 6 ∨ z = 7 ∨ z = 8 ∨ z = 9 ∨ z = 10 ∨ z = 11 ∨ z = 12 ∨ z = 13 ∨ z = 14 ∨ z = 15 ∨ z = 16 ∨ z = 17 ∨ z = 18 ∨ z = 19 ∨ z = 20 ∨ z = 21 ∨ z = 22 ∨ z = 23 ∨ z = 24 ∨ z = 25 ∨ z = 26 ∨ z = 27 ∨ z = 28 ∨ z = 29 ∨ z = 30 ∨ z = 31 := by omega
  rcases cases32 with rfl | rfl | rfl | rfl | rfl | rfl | rfl | rfl | rfl | rfl | rfl | rfl | rfl | rfl | rfl | rfl | rfl | rfl | rfl | rfl | rfl | rfl | rfl | rfl | rfl | rfl | rfl | rfl | rfl | rfl | rfl | rfl
  · refine hx_ei (show nI 0 = (0 : Int32) from rfl) ?_
    refine lv_tableIn (off := 128) (tgt := 160) hx hb dL_law_32 (by decide) (by decide) (by decide) (by decide) ?_
    exact law_c0 hLn C0' hk nx hI hR X hl
  · refine hx_ei (show nI 1 = (1 : Int32) from rfl) ?_
    refine lv_tableIn (off := 151) (tgt := 183) hx hb dL_law_32 (by decide) (by decide) (by decide) (by decide) ?_
    exact law_c1 hLn C0' hk nx hI hR X hl
  · refine hx_ei (show nI 2 = (2 : Int32) from rfl) ?_
    refine lv_tableIn (off := 174) (tgt := 206) hx hb dL_law_32 (by decide) (by decide) (by decide) (by decide) ?_
    exact law_c2 hLn C0' hk nx hI hR X hl
  · refine hx_ei (show nI 3 = (3 : Int32) from rfl) ?_
    refine lv_tableIn (off := 207) (tgt := 239) hx hb dL_law_32 (by decide) (by decide) (by decide) (by decide) ?_
    exact law_c3 hLn C0' hk nx hI hR X hl
  · refine hx_ei (show nI 4 = (4 : Int32) from rfl) ?_
    refine lv_tableIn (off := 230) (tgt := 262) hx hb dL_law_32 (by decide) (by decide) (by decide) (by decide) ?_
    exact law_c4 hLn C0' hk nx hI hR X hl
  · refine hx_ei (show nI 5 = (5 : Int32) from rfl) ?_
    refine lv_tableIn (off := 253) (tgt := 285) hx hb dL_law_32 (by decide) (by decide) (by decide) (by decide) ?_
    exact law_c5 hLn C0' hk nx hI hR X hl
  · refine hx_ei (show nI 6 = (6 : Int32) from rfl) ?_
    refine lv_tableIn (off := 296) (tgt := 328) hx hb dL_law_32 (by decide) (by decide) (by decide) (by decide) ?_
    exact law_c6 hLn C0' hk nx hI hR X hl
  · refine hx_ei (show nI 7 = (7 : Int32) from rfl) ?_
    refine lv_tableIn (off := 329) (tgt := 361) hx hb dL_law_32 (by decide) (by decide) (by decide) (by decide) ?_
    exact law_c7 hLn C0' hk nx hI hR X hl
  · refine hx_ei (show nI 8 = (8 : Int32) from rfl) ?_
    refine lv_tableIn (off := 372) (tgt := 404) hx hb dL_law_32 (by decide) (by decide) (by decide) (by decide) ?_
    exact law_c8 hLn C0' hk nx hI hR X hl
  · refine hx_ei (show nI 9 = (9 : Int32) from rfl) ?_
    refine lv_tableIn (off := 415) (tgt := 447) hx hb dL_law_32 (by decide) (by decide) (by decide) (by decide) ?_
    exact law_c9 hLn C0' hk nx hI hR X hl
  · refine hx_ei (show nI 10 = (10 : Int32) from rfl) ?_
    refine lv_tableIn (off := 458) (tgt := 490) hx hb dL_law_32 (by decide) (by decide) (by decide) (by decide) ?_
    exact law_c10 hLn C0' hk nx hI hR X hl
  · refine hx_ei (show nI 11 = (11 : Int32) from rfl) ?_
    refine lv_tableIn (off := 481) (tgt := 513) hx hb dL_law_32 (by decide) (by decide) (by decide) (by decide) ?_
    exact law_c11 hLn C0' hk nx hI hR X hl
  · refine hx_ei (show nI 12 = (12 : Int32) from rfl) ?_
    refine lv_tableIn (off := 504) (tgt := 536) hx hb dL_law_32 (by decide) (by decide) (by decide) (by decide) ?_
    exact law_c12 hLn C0' hk nx hI hR X hl
  · refine hx_ei (show nI 13 = (13 : Int32) from rfl) ?_
    refine lv_tableIn (off := 527) (tgt := 559) hx hb dL_law_32 (by decide) (by decide) (by decide) (by decide) ?_
    exact law_c13 hLn C0' hk nx hI hR X hl
  · refine hx_ei (show nI 14 = (14 : Int32) from rfl) ?_
    refine lv_tableIn (off := 560) (tgt := 592) hx hb dL_law_32 (by decide) (by decide) (by decide) (by decide) ?_
    exact law_c14 hLn C0' hk nx hI hR X hl
  · refine hx_ei (show nI 15 = (15 : Int32) from rfl) ?_
    refine lv_tableIn (off := 583) (tgt := 615) hx hb dL_law_32 (by decide) (by decide) (by decide) (by decide) ?_
    exact law_c15 hLn C0' hk nx hI hR X hl
  · refine hx_ei (show nI 16 = (16 : Int32) from rfl) ?_
    refine lv_tableIn (off := 606) (tgt := 638) hx hb dL_law_32 (by decide) (by decide) (by decide) (by decide) ?_
    exact law_c16 hLn C0' hk nx hI hR X hl
  · refine hx_ei (show nI 17 = (17 : Int32) from rfl) ?_
    refine lv_tableIn (off := 639) (tgt := 671) hx hb dL_law_32 (by decide) (by decide) (by decide) (by decide) ?_
    exact law_c17 hLn C0' hk nx hI hR X hl
  · refine hx_ei (show nI 18 = (18 : Int32) from rfl) ?_
    refine lv_tableIn (off := 672) (tgt := 704) hx hb dL_law_32 (by decide) (by decide) (by decide) (by decide) ?_
    exact law_c18 hLn C0' hk nx hI hR X hl
  · refine hx_ei (show nI 19 = (19 : Int32) from rfl) ?_
    refine lv_tableIn (off := 695) (tgt := 727) hx hb dL_law_32 (by decide) (by decide) (by decide) (by decide) ?_
    exact law_c19 hLn C0' hk nx hI hR X hl
  · refine hx_ei (show nI 20 = (20 : Int32) from rfl) ?_
    refine lv_tableIn (off := 718) (tgt := 750) hx hb dL_law_32 (by decide) (by decide) (by decide) (by decide) ?_
    exact law_c20 hLn C0' hk nx hI hR X hl
  · refine hx_ei (show nI 21 = (21 : Int32) from rfl) ?_
    refine lv_tableIn (off := 761) (tgt := 793) hx hb dL_law_32 (by decide) (by decide) (by decide) (by decide) ?_
    exact law_c21 hLn C0' hk nx hI hR X hl
  · refine hx_ei (show nI 22 = (22 : Int32) from rfl) ?_
    refine lv_tableIn (off := 814) (tgt := 846) hx hb dL_law_32 (by decide) (by decide) (by decide) (by decide) ?_
    exact law_c22 hLn C0' hk nx hI hR X hl
  · refine hx_ei (show nI 23 = (23 : Int32) from rfl) ?_
    refine lv_tableIn (off := 847) (tgt := 879) hx hb dL_law_32 (by decide) (by decide) (by decide) (by decide) ?_
    exact law_c23 hLn C0' hk nx hI hR X hl
  · refine hx_ei (show nI 24 = (24 : Int32) from rfl) ?_
    refine lv_tableIn (off := 870) (tgt := 902) hx hb dL_law_32 (by decide) (by decide) (by decide) (by decide) ?_
    exact law_c24 hLn C0' hk nx hI hR X hl
  · refine hx_ei (show nI 25 = (25 : Int32) from rfl) ?_
    refine lv_tableIn (off := 893) (tgt := 925) hx hb dL_law_32 (by decide) (by decide) (by decide) (by decide) ?_
    exact law_c25 hLn C0' hk nx hI hR X hl
  · refine hx_ei (show nI 26 = (26 : Int32) from rfl) ?_
    refine lv_tableIn (off := 916) (tgt := 948) hx hb dL_law_32 (by decide) (by decide) (by decide) (by decide) ?_
    exact law_c26 hLn C0' hk nx hI hR X hl
  · refine hx_ei (show nI 27 = (27 : Int32) from rfl) ?_
    refine lv_tableIn (off := 939) (tgt := 971) hx hb dL_law_32 (by decide) (by decide) (by decide) (by decide) ?_
    exact law_c27 hLn C0' hk nx hI hR X hl
  · refine hx_ei (show nI 28 = (28 : Int32) from rfl) ?_
    refine lv_tableOut (tgt := 994) hx hb dL_law_32 (by decide) (by decide) ?_
    exact law_tail hLn C0' hk nx hI hR rfl rfl X hl (by omega) (by omega)
  · refine hx_ei (show nI 29 = (29 : Int32) from rfl) ?_
    refine lv_tableOut (tgt := 994) hx hb dL_law_32 (by decide) (by decide) ?_
    exact law_tail hLn C0' hk nx hI hR rfl rfl X hl (by omega) (by omega)
  · refine hx_ei (show nI 30 = (30 : Int32) from rfl) ?_
    refine lv_tableOut (tgt := 994) hx hb dL_law_32 (by decide) (by decide) ?_
    exact law_tail hLn C0' hk nx hI hR rfl rfl X hl (by omega) (by omega)
  · refine hx_ei (show nI 31 = (31 : Int32) from rfl) ?_
    refine lv_tableOut (tgt := 994) hx hb dL_law_32 (by decide) (by decide) ?_
    exact law_tail hLn C0' hk nx hI hR rfl rfl X hl (by omega) (by omega)

theorem law_loop (hLn : Ln ≤ 2560) (C0 : lw_At p s m meth c b Ln xs) : ∀ n k, Ln ≤ 5 * k + n → 5 * k ≤ Ln + 5 → lwI p l e s m below meth c G b k := by
  intro n
  induction n with
  | zero => intro k h1 h2; exact law_head hLn C0 h2 (fun h => by omega)
  | succ n ih => intro k h1 h2; exact law_head hLn C0 h2 (fun h => ih (k + 1) (by omega) (by omega))
end LAW
section START
variable {s : State} {args : Array Value}
theorem arr_known {cA comp : ClassId} {kA : Class} {ty : FieldType} (h2 : s.vm.classes[cA]? = some kA) (h3 : kA.kind = .array comp ty) : ArrOfT s cA ty := fun N z => ⟨(fun k h => by cases h), kA, h2, comp, h3⟩
theorem ac_int (h : (Cond.arrayClass .int).before args s = true) : ∃ cA, ArrOfT s cA .int ∧ va_RA s cA .int := by
  obtain ⟨c, k, comp, h1, h2, h3⟩ := Cond.arrayClass_spec h
  exact ⟨c, arr_known h2 h3, h1⟩
theorem ac_bool (h : (Cond.arrayClass .boolean).before args s = true) : ∃ cA, ArrOfT s cA .boolean ∧ va_RA s cA .boolean := by
  obtain ⟨c, k, comp, h1, h2, h3⟩ := Cond.arrayClass_spec h
  exact ⟨c, arr_known h2 h3, h1⟩
theorem ao_obj {C : String} (h : (Cond.arrayOver (.object C)).before args s = true) : ∃ cA, ArrOfT s cA (.object C) ∧ va_RA s cA (.object C) := by
  obtain ⟨comp, c, k, h1, -, h2, h3, h4⟩ := Cond.arrayOver_spec h
  exact ⟨c, arr_known h2 h3, k, comp, h2, h3, h1, h4⟩
theorem ao_ints (h : (Cond.arrayOver (.array .int)).before args s = true) : ∃ cA, ArrOfT s cA (.array .int) ∧ va_RA s cA (.array .int) := by
  obtain ⟨comp, c, k, h1, -, h2, h3, h4⟩ := aovA_spec h
  exact ⟨c, arr_known h2 h3, h4⟩
theorem tb_nf : ∀ q ∈ hNF, Cond.fieldLinkNest q.1 q.2.1 q.2.2.1 q.2.2.2.1 q.2.2.2.2.1 q.2.2.2.2.2 ∈ tables_1 := by decide +kernel
theorem tb_nm : ∀ q ∈ hNM, Cond.methodLinkNest q.1 q.2.1 q.2.2.1 q.2.2.2 ∈ tables_1 := by decide +kernel
theorem tb_na : ∀ C ∈ hNA, Cond.arrayOver (.object C) ∈ tables_1 := by decide +kernel
theorem tb_aa : Cond.arrayOver (.array .int) ∈ tables_1 := by decide +kernel
theorem tb_ci : Cond.arrayClass .int ∈ tables_1 := by decide +kernel
theorem tb_cz : Cond.arrayClass .boolean ∈ tables_1 := by decide +kernel
theorem tb_in {w : Cond} (h : w ∈ tables_1) : w ∈ lw_tbl := List.mem_append_right _ h
end START
