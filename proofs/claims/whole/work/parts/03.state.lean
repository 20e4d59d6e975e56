/-! THE REFERENCE'S STATE: its numbers and arrays as one function; its cells -/
abbrev Sg : Type := Nat → Nat → Int32
def mS (σ : Sg) (k j : Nat) (x : Int32) : Sg := fun k' => if k' = k then upd (σ k') j x else σ k'
theorem mS_eq (σ : Sg) (k j : Nat) (x : Int32) : mS σ k j x k j = x := by simp [mS, upd]
theorem mS_ne (σ : Sg) (k : Nat) {j i : Nat} (x : Int32) (h : i ≠ j) : mS σ k j x k i = σ k i := by simp [mS, upd, h]
theorem mS_nk (σ : Sg) {k k' : Nat} (j i : Nat) (x : Int32) (h : k' ≠ k) : mS σ k j x k' i = σ k' i := by simp [mS, h]
theorem mS_at (σ : Sg) (k j : Nat) (x : Int32) (k' i : Nat) : mS σ k j x k' i = if k' = k ∧ i = j then x else σ k' i := by
  by_cases h : k' = k <;> by_cases h2 : i = j <;> simp [mS, upd, h, h2]
def mW (G : hG) (ad : Nat → Nat) (σ : Sg) : va_W := [(ad 0, .inr (7, [.int (σ 0 0), .ref (ad 1), .ref (ad 2), .ref (ad 3), .ref (ad 4), .ref (ad 5), .int (σ 0 1), .ref (ad 6), .ref (ad 7), .ref (ad 8), .ref (ad 9), .ref (ad 10)])), (ad 1, hAI G 972 (σ 1)), (ad 2, hAI G 4 (σ 2)), (ad 3, hAI G 32 (σ 3)), (ad 4, hAI G 32 (σ 4)), (ad 5, hAI G 32 (σ 5)), (ad 6, hAZ G 24 (σ 6)), (ad 7, hAI G 24 (σ 7)), (ad 8, hAI G 24 (σ 8)), (ad 9, hAI G 24 (σ 9)), (ad 10, hAI G 1536 (σ 10))]
theorem mW_0 (G : hG) (ad : Nat → Nat) (σ : Sg) : (mW G ad σ)[0]? = some (ad 0, .inr (7, [.int (σ 0 0), .ref (ad 1), .ref (ad 2), .ref (ad 3), .ref (ad 4), .ref (ad 5), .int (σ 0 1), .ref (ad 6), .ref (ad 7), .ref (ad 8), .ref (ad 9), .ref (ad 10)])) := rfl
theorem mW_1 (G : hG) (ad : Nat → Nat) (σ : Sg) : (mW G ad σ)[1]? = some (ad 1, hAI G 972 (σ 1)) := rfl
theorem mW_s1 (G : hG) (ad : Nat → Nat) (σ : Sg) (j : Nat) (x : Int32) : (mW G ad σ).set 1 (ad 1, hAI G 972 (upd (σ 1) j x)) = mW G ad (mS σ 1 j x) := rfl
theorem mW_2 (G : hG) (ad : Nat → Nat) (σ : Sg) : (mW G ad σ)[2]? = some (ad 2, hAI G 4 (σ 2)) := rfl
theorem mW_s2 (G : hG) (ad : Nat → Nat) (σ : Sg) (j : Nat) (x : Int32) : (mW G ad σ).set 2 (ad 2, hAI G 4 (upd (σ 2) j x)) = mW G ad (mS σ 2 j x) := rfl
theorem mW_3 (G : hG) (ad : Nat → Nat) (σ : Sg) : (mW G ad σ)[3]? = some (ad 3, hAI G 32 (σ 3)) := rfl
theorem mW_s3 (G : hG) (ad : Nat → Nat) (σ : Sg) (j : Nat) (x : Int32) : (mW G ad σ).set 3 (ad 3, hAI G 32 (upd (σ 3) j x)) = mW G ad (mS σ 3 j x) := rfl
theorem mW_4 (G : hG) (ad : Nat → Nat) (σ : Sg) : (mW G ad σ)[4]? = some (ad 4, hAI G 32 (σ 4)) := rfl
theorem mW_s4 (G : hG) (ad : Nat → Nat) (σ : Sg) (j : Nat) (x : Int32) : (mW G ad σ).set 4 (ad 4, hAI G 32 (upd (σ 4) j x)) = mW G ad (mS σ 4 j x) := rfl
theorem mW_5 (G : hG) (ad : Nat → Nat) (σ : Sg) : (mW G ad σ)[5]? = some (ad 5, hAI G 32 (σ 5)) := rfl
theorem mW_s5 (G : hG) (ad : Nat → Nat) (σ : Sg) (j : Nat) (x : Int32) : (mW G ad σ).set 5 (ad 5, hAI G 32 (upd (σ 5) j x)) = mW G ad (mS σ 5 j x) := rfl
theorem mW_6 (G : hG) (ad : Nat → Nat) (σ : Sg) : (mW G ad σ)[6]? = some (ad 6, hAZ G 24 (σ 6)) := rfl
theorem mW_s6 (G : hG) (ad : Nat → Nat) (σ : Sg) (j : Nat) (x : Int32) : (mW G ad σ).set 6 (ad 6, hAZ G 24 (upd (σ 6) j x)) = mW G ad (mS σ 6 j x) := rfl
theorem mW_7 (G : hG) (ad : Nat → Nat) (σ : Sg) : (mW G ad σ)[7]? = some (ad 7, hAI G 24 (σ 7)) := rfl
theorem mW_s7 (G : hG) (ad : Nat → Nat) (σ : Sg) (j : Nat) (x : Int32) : (mW G ad σ).set 7 (ad 7, hAI G 24 (upd (σ 7) j x)) = mW G ad (mS σ 7 j x) := rfl
theorem mW_8 (G : hG) (ad : Nat → Nat) (σ : Sg) : (mW G ad σ)[8]? = some (ad 8, hAI G 24 (σ 8)) := rfl
theorem mW_s8 (G : hG) (ad : Nat → Nat) (σ : Sg) (j : Nat) (x : Int32) : (mW G ad σ).set 8 (ad 8, hAI G 24 (upd (σ 8) j x)) = mW G ad (mS σ 8 j x) := rfl
theorem mW_9 (G : hG) (ad : Nat → Nat) (σ : Sg) : (mW G ad σ)[9]? = some (ad 9, hAI G 24 (σ 9)) := rfl
theorem mW_s9 (G : hG) (ad : Nat → Nat) (σ : Sg) (j : Nat) (x : Int32) : (mW G ad σ).set 9 (ad 9, hAI G 24 (upd (σ 9) j x)) = mW G ad (mS σ 9 j x) := rfl
theorem mW_10 (G : hG) (ad : Nat → Nat) (σ : Sg) : (mW G ad σ)[10]? = some (ad 10, hAI G 1536 (σ 10)) := rfl
theorem mW_s10 (G : hG) (ad : Nat → Nat) (σ : Sg) (j : Nat) (x : Int32) : (mW G ad σ).set 10 (ad 10, hAI G 1536 (upd (σ 10) j x)) = mW G ad (mS σ 10 j x) := rfl
theorem mW_pc (G : hG) (ad : Nat → Nat) (σ : Sg) (v : Int32) : (mW G ad σ).set 0 (ad 0, .inr (7, ([.int (σ 0 0), .ref (ad 1), .ref (ad 2), .ref (ad 3), .ref (ad 4), .ref (ad 5), .int (σ 0 1), .ref (ad 6), .ref (ad 7), .ref (ad 8), .ref (ad 9), .ref (ad 10)] : List Value).set 0 (.int v))) = mW G ad (mS σ 0 0 v) := rfl
theorem mW_po (G : hG) (ad : Nat → Nat) (σ : Sg) (v : Int32) : (mW G ad σ).set 0 (ad 0, .inr (7, ([.int (σ 0 0), .ref (ad 1), .ref (ad 2), .ref (ad 3), .ref (ad 4), .ref (ad 5), .int (σ 0 1), .ref (ad 6), .ref (ad 7), .ref (ad 8), .ref (ad 9), .ref (ad 10)] : List Value).set 6 (.int v))) = mW G ad (mS σ 0 1 v) := rfl
section MX
variable {p : Program} {l : Launch} {e : Env} {R : Room} {s : State} {m : MethodId} {args : Array Value} {below : List Frame} {meth : Method} {c : Code} {H H0 : Heap} {locs : List Loc} {cells slots : Nat} {Q : State → Prop}
variable {cc : ByteArray} {nL pc : Nat} {ls : Array Slot} {rest : List Value} {Ts : List Cond} {own : String} {A : Nat → Prop} {wd : va_W} {G : hG} {ad : Nat → Nat} {σ : Sg}
theorem mx_ld (S : CallFix p m c cc nL s args Ts own) (X : hH G A H0 s (mW G ad σ) H locs) (k : Nat) {N : Nat} (hk : (mW G ad σ)[k]? = some (ad k, hAI G N (σ k))) {j : Nat} (hj : j < N) (hN : N < 2 ^ 31) {x : Int32} (hx : σ k j = x) (hdg : decode cc pc = .ok (.iaload, 1))
    (kk : W p l e R s m args below meth c H locs cells slots Q (F0 m (pc + 1) ls (.int x :: rest))) : W p l e R s m args below meth c H locs cells slots Q (F0 m pc ls (.int (nI j) :: .ref (ad k) :: rest)) :=
  hx_iald S X k hk (vp_in_nI hj hN) (by rw [nI_clamp (by omega)]; exact hx) hdg kk
theorem mx_st (S : CallFix p m c cc nL s args Ts own) (X : hH G A H0 s (mW G ad σ) H locs) (k : Nat) {N : Nat} (hk : (mW G ad σ)[k]? = some (ad k, hAI G N (σ k))) {j : Nat} (hj : j < N) (hN : N < 2 ^ 31) {x : Int32} (hdg : decode cc pc = .ok (.iastore, 1)) (hw : (mW G ad σ).set k (ad k, hAI G N (upd (σ k) j x)) = mW G ad (mS σ k j x))
    (kk : ∀ (H1 : Heap) (locs1 : List Loc), hH G A H0 s (mW G ad (mS σ k j x)) H1 locs1 → W p l e R s m args below meth c H1 locs1 cells slots Q (F0 m (pc + 1) ls rest)) : W p l e R s m args below meth c H locs cells slots Q (F0 m pc ls (.int x :: .int (nI j) :: .ref (ad k) :: rest)) :=
  hx_iast S X k hk j (nI_clamp (by omega)) (vp_in_nI hj hN) hdg hw kk
theorem mx_zld (S : CallFix p m c cc nL s args Ts own) (X : hH G A H0 s (mW G ad σ) H locs) {j : Nat} (hj : j < 24) {x : Int32} (hx : σ 6 j = x) (hdg : decode cc pc = .ok (.baload, 1))
    (kk : W p l e R s m args below meth c H locs cells slots Q (F0 m (pc + 1) ls (.int x :: rest))) : W p l e R s m args below meth c H locs cells slots Q (F0 m pc ls (.int (nI j) :: .ref (ad 6) :: rest)) :=
  hx_zald S X 6 (mW_6 G ad σ) (vp_in_nI hj (by decide)) (by rw [nI_clamp (by omega)]; exact hx) hdg kk
theorem mx_zst (S : CallFix p m c cc nL s args Ts own) (X : hH G A H0 s (mW G ad σ) H locs) {j : Nat} (hj : j < 24) {x : Int32} (hz : vp_nar .boolean x = x) (hdg : decode cc pc = .ok (.bastore, 1))
    (kk : ∀ (H1 : Heap) (locs1 : List Loc), hH G A H0 s (mW G ad (mS σ 6 j x)) H1 locs1 → W p l e R s m args below meth c H1 locs1 cells slots Q (F0 m (pc + 1) ls rest)) : W p l e R s m args below meth c H locs cells slots Q (F0 m pc ls (.int x :: .int (nI j) :: .ref (ad 6) :: rest)) :=
  hx_zast S X 6 (mW_6 G ad σ) j (nI_clamp (by omega)) (vp_in_nI hj (by decide)) hz hdg (mW_s6 G ad σ j x) kk
end MX
/-! readings, in numbers -/
abbrev cN (x : Int32) : Nat := x.toNatClampNeg
def nC (σ : Sg) : Nat := cN (σ 0 0)
def nO (σ : Sg) : Nat := cN (σ 0 1)
def cnt (σ : Sg) (t : Nat) : Nat := cN (σ 1 (162 * t + 0))
def stp (σ : Sg) (t v : Nat) : Nat := cN (σ 1 (162 * t + (10 + v)))
def dN (σ : Sg) (th : Nat) : Nat := cN (σ 2 th)
def fC (σ : Sg) (j : Nat) : Nat := cN (σ 3 j)
def fV (σ : Sg) (j : Nat) : Nat := cN (σ 4 j)
def oC (σ : Sg) (o : Nat) : Nat := cN (σ 7 o)
def oV (σ : Sg) (o : Nat) : Nat := cN (σ 8 o)
def oF (σ : Sg) (o : Nat) : Nat := cN (σ 9 o)
def liv (σ : Sg) (j : Nat) : Prop := j % 8 < dN σ (j / 8)
def isVal (x : Int32) : Prop := -1000000 ≤ x ∧ x ≤ 1000000
def isF (x : Int32) : Prop := ∃ f : Nat, f < 8 ∧ x = nI f
def isT (x : Int32) : Prop := ∃ t : Nat, t < 4 ∧ x = nI t
def isC (σ : Sg) (x : Int32) : Prop := ∃ t : Nat, t < nC σ ∧ x = nI t
def isO (σ : Sg) (x : Int32) : Prop := ∃ o : Nat, (o < nO σ ∧ σ 6 o = 1) ∧ x = nI o
def hasF (set f : Int32) : Prop := isF f ∧ (set >>> (f &&& 31)) &&& 1 = 1
def pinB (x o : Int32) : Prop := (x >>> (o &&& 31)) &&& 1 = 1
/-- a step: kind 0 to 4, its field, its second word -/
def okSt (k a b : Int32) : Prop := (∃ f : Nat, f < 8 ∧ a = nI f) ∧ ((k = 0 ∧ isVal b) ∨ k = 1 ∨ (k = 2 ∧ isF b) ∨ (k = 3 ∧ -100000 ≤ b ∧ b ≤ 100000) ∨ (k = 4 ∧ isF b))
def InvC (σ : Sg) (t : Nat) : Prop := (σ 1 (162 * t + 0) = nI (cnt σ t) ∧ 1 ≤ cnt σ t ∧ cnt σ t ≤ 8) ∧ (σ 1 (162 * t + 1) = 0 ∨ (σ 1 (162 * t + 1) = 1 ∧ cnt σ t ≤ 7)) ∧
  ∀ v, v < 8 → (σ 1 (162 * t + (10 + v)) = nI (stp σ t v) ∧ stp σ t v ≤ 6) ∧ ∀ n, n < stp σ t v → okSt (σ 1 (162 * t + (18 + 18 * v + 3 * n))) (σ 1 (162 * t + (18 + 18 * v + 3 * n) + 1)) (σ 1 (162 * t + (18 + 18 * v + 3 * n) + 2))
def InvF (σ : Sg) (j : Nat) : Prop := (σ 3 j = nI (fC σ j) ∧ fC σ j < nC σ) ∧ (σ 4 j = nI (fV σ j) ∧ fV σ j < cnt σ (fC σ j)) ∧ ∀ o, o < 24 → pinB (σ 5 j) (nI o) → o < nO σ ∧ (σ 6 o = 1 → σ 7 o = σ 3 j ∧ oF σ o ≤ fV σ j)
def InvO (σ : Sg) (o : Nat) : Prop := (σ 7 o = nI (oC σ o) ∧ oC σ o < nC σ) ∧ (σ 8 o = nI (oV σ o) ∧ oV σ o < cnt σ (oC σ o)) ∧ (σ 9 o = nI (oF σ o) ∧ oF σ o ≤ oV σ o) ∧ ∀ v k, oF σ o ≤ v → v ≤ oV σ o → k < 8 → isVal (σ 10 (64 * o + 8 * v + k))
def Inv (σ : Sg) : Prop := (σ 0 0 = nI (nC σ) ∧ nC σ ≤ 6) ∧ (σ 0 1 = nI (nO σ) ∧ nO σ ≤ 24) ∧ (∀ t, t < nC σ → InvC σ t) ∧ (∀ th, th < 4 → σ 2 th = nI (dN σ th) ∧ dN σ th ≤ 8) ∧ (∀ j, j < 32 → liv σ j → InvF σ j) ∧ (∀ o, o < nO σ → (σ 6 o = 0 ∨ σ 6 o = 1) ∧ (σ 6 o = 1 → InvO σ o))
/-- a choice between two by any proposition -/
noncomputable def wif {α : Type} (P : Prop) (a b : α) : α := @ite α P (Classical.propDecidable P) a b
theorem wif_t {α : Type} {P : Prop} (h : P) (a b : α) : wif P a b = a := by simp [wif, h]
theorem wif_f {α : Type} {P : Prop} (h : ¬ P) (a b : α) : wif P a b = b := by simp [wif, h]
/-- the answer of a test: 1 or 0 -/
def isB (r : Int32) (P : Prop) : Prop := (P → r = 1) ∧ (¬ P → r = 0)
theorem isB_t {r : Int32} {P : Prop} (h : P) (hr : r = 1) : isB r P := ⟨fun _ => hr, fun n => absurd h n⟩
theorem isB_f {r : Int32} {P : Prop} (h : ¬ P) (hr : r = 0) : isB r P := ⟨fun n => absurd n h, fun _ => hr⟩
theorem isB_same {P : Prop} (r r2 : Int32) (h1 : isB r P) (h2 : isB r2 P) : r = r2 := by
  by_cases h : P
  · rw [h1.1 h, h2.1 h]
  · rw [h1.2 h, h2.2 h]
theorem i_lt (a b : Int32) : a < b ↔ a.toInt < b.toInt := Int32.lt_iff_toInt_lt
theorem i_le (a b : Int32) : a ≤ b ↔ a.toInt ≤ b.toInt := Int32.le_iff_toInt_le
/-- a range test from 0 -/
theorem in_0 {n : Nat} (hn : n < 2 ^ 31) (x : Int32) : (0 ≤ x ∧ x < nI n) ↔ ∃ j : Nat, j < n ∧ x = nI j := by
  constructor
  · intro h
    rcases pk_ix x (n := n) hn with h1 | h1 | h1
    · exact absurd h.1 (by rw [i_le]; rw [i_lt] at h1; omega)
    · exact absurd h.2 (by rw [i_lt]; rw [i_le] at h1; omega)
    · exact h1
  · rintro ⟨j, hj, rfl⟩
    exact ⟨nI_pos' (by omega), nI_lt hj (by omega)⟩
theorem in_1 {n : Nat} (hn : n < 2 ^ 30) (x : Int32) : (0 ≤ x ∧ x ≤ nI n) ↔ ∃ j : Nat, j < n + 1 ∧ x = nI j := by
  rw [← in_0 (n := n + 1) (show n + 1 < 2 ^ 31 by omega)]
  have h1 : (nI n).toInt = n := nI_toInt (by omega)
  have h2 : (nI (n + 1)).toInt = (n + 1 : Nat) := nI_toInt (by omega)
  constructor
  · rintro ⟨a, b⟩
    refine ⟨a, ?_⟩
    rw [i_lt, h2]
    rw [i_le, h1] at b
    omega
  · rintro ⟨a, b⟩
    refine ⟨a, ?_⟩
    rw [i_le, h1]
    rw [i_lt, h2] at b
    omega
theorem in_m1 {n : Nat} (hn : n < 2 ^ 30) (x : Int32) : (0 ≤ x ∧ x ≤ nI n - 1) ↔ ∃ j : Nat, j < n ∧ x = nI j := by
  cases n with
  | zero =>
    constructor
    · rintro ⟨a, b⟩
      rw [i_le] at a b
      have h1 : (nI 0 - 1).toInt = -1 := by decide
      have h2 : (0 : Int32).toInt = 0 := by decide
      omega
    · rintro ⟨j, hj, _⟩
      omega
  | succ n =>
    rw [nI_pred]
    exact in_1 (by omega) x
