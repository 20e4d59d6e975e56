/-! bits -/
theorem sm32 : ∀ u : Fin 32, (((nI u.1) &&& 31 : Int32).toBitVec.smod 32).toNat = u.1 := by decide +kernel
theorem bit_at (x : Int32) {u : Nat} (hu : u < 32) : pinB x (nI u) ↔ x.toBitVec.getLsbD u = true := by
  have h := sm32 ⟨u, hu⟩
  unfold pinB
  rw [← Int32.toBitVec_inj, Int32.toBitVec_and, Int32.toBitVec_shiftRight]
  have h2 : x.toBitVec.sshiftRight' ((nI u &&& 31 : Int32).toBitVec.smod 32) = x.toBitVec.sshiftRight u := by
    rw [BitVec.sshiftRight_eq', h]
  rw [h2]
  constructor
  · intro q
    have q2 : ((x.toBitVec.sshiftRight u) &&& (1 : Int32).toBitVec).getLsbD 0 = true := by rw [q]; decide
    rw [BitVec.getLsbD_and, BitVec.getLsbD_sshiftRight] at q2
    simp [hu] at q2
    rw [BitVec.getLsbD_eq_getElem hu]
    exact q2
  · intro q
    apply BitVec.eq_of_getLsbD_eq
    intro i hi
    rw [BitVec.getLsbD_and]
    by_cases e : i = 0
    · subst e
      simp [BitVec.getLsbD_sshiftRight, hu, q]
    · have : (1 : Int32).toBitVec.getLsbD i = false := by
        show (1#32).getLsbD i = false
        simp [BitVec.getLsbD_one, e]
      rw [this]; simp
theorem bit_one {o u : Nat} (ho : o < 32) (hu : u < 32) : (((1 : Int32) <<< (nI o &&& 31)).toBitVec.getLsbD u = true) ↔ u = o := by
  have h := sm32 ⟨o, ho⟩
  rw [Int32.toBitVec_shiftLeft]
  have h2 : (1 : Int32).toBitVec <<< ((nI o &&& 31 : Int32).toBitVec.smod 32) = (1#32) <<< o := by
    rw [BitVec.shiftLeft_eq', h]; rfl
  rw [h2, BitVec.getLsbD_shiftLeft, BitVec.getLsbD_one]
  simp
  omega
theorem pin_or (x : Int32) {o u : Nat} (ho : o < 32) (hu : u < 32) : pinB (x ||| (1 : Int32) <<< (nI o &&& 31)) (nI u) ↔ pinB x (nI u) ∨ u = o := by
  rw [bit_at _ hu, bit_at _ hu, Int32.toBitVec_or, BitVec.getLsbD_or, Bool.or_eq_true, bit_one ho hu]
theorem pin_clr (x : Int32) {o u : Nat} (ho : o < 32) (hu : u < 32) : pinB (x &&& (((1 : Int32) <<< (nI o &&& 31)) ^^^ (-1 : Int32))) (nI u) ↔ pinB x (nI u) ∧ u ≠ o := by
  rw [bit_at _ hu, bit_at _ hu, Int32.toBitVec_and, BitVec.getLsbD_and, Bool.and_eq_true, Int32.toBitVec_xor, BitVec.getLsbD_xor]
  have h1 : (-1 : Int32).toBitVec.getLsbD u = true := by
    have : (-1 : Int32).toBitVec = BitVec.allOnes 32 := by decide
    rw [this, BitVec.getLsbD_allOnes]
    simp [hu]
  rw [h1, Bool.xor_true, Bool.not_eq_true', ← Bool.not_eq_true, bit_one ho hu]
theorem pin_same (x : Int32) {o : Nat} (ho : o < 32) (h : ¬ pinB x (nI o)) : x &&& (((1 : Int32) <<< (nI o &&& 31)) ^^^ (-1 : Int32)) = x := by
  apply Int32.toBitVec_inj.mp
  apply BitVec.eq_of_getLsbD_eq
  intro u hu
  have a := pin_clr x ho hu
  rw [bit_at _ hu, bit_at _ hu] at a
  rw [bit_at _ ho] at h
  by_cases c : x.toBitVec.getLsbD u = true
  · rw [c]
    exact a.mpr ⟨c, fun e => h (e ▸ c)⟩
  · have b : ¬ (x &&& (((1 : Int32) <<< (nI o &&& 31)) ^^^ (-1 : Int32))).toBitVec.getLsbD u = true := fun q => c (a.mp q).1
    rw [Bool.eq_false_iff.mpr c, Bool.eq_false_iff.mpr b]
