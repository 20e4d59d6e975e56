section
-- ===== PART A: goes FIRST, ahead of the names: the tables' words, and 'selects' of the private methods out of them =====
/-- a private method of a class that the tables say can be made, by its rows of tables_1 -/
def lw_okq (q : MethodName × Nat) : Prop := (q.1.cls ≠ "java/lang/invoke/MethodHandle" ∧ q.1.cls ≠ "java/lang/invoke/VarHandle") ∧ Cond.instantiable q.1.cls q.2 ∈ tables_1 ∧ Cond.privateMethod q.1 ∈ tables_1 ∧ Cond.instanceMethod q.1 ∈ tables_1
theorem lw_p0 : lw_okq (⟨"LiveUpgrader", "historyOf", "(I)LLiveUpgrader$ClassHistory;"⟩, 5) := ⟨⟨by decide +kernel, by decide +kernel⟩, List.mem_of_getElem? (i := 12) (by decide +kernel), List.mem_of_getElem? (i := 112) (by decide +kernel), List.mem_of_getElem? (i := 113) (by decide +kernel)⟩
theorem lw_p1 : lw_okq (⟨"LiveUpgrader", "countFrames", "(III)I"⟩, 5) := ⟨⟨by decide +kernel, by decide +kernel⟩, List.mem_of_getElem? (i := 12) (by decide +kernel), List.mem_of_getElem? (i := 242) (by decide +kernel), List.mem_of_getElem? (i := 243) (by decide +kernel)⟩
theorem lw_p2 : lw_okq (⟨"LiveUpgrader", "rollBackObjects", "(II)V"⟩, 5) := ⟨⟨by decide +kernel, by decide +kernel⟩, List.mem_of_getElem? (i := 12) (by decide +kernel), List.mem_of_getElem? (i := 251) (by decide +kernel), List.mem_of_getElem? (i := 252) (by decide +kernel)⟩
theorem lw_p3 : lw_okq (⟨"LiveUpgrader", "stackOf", "(I)LLiveUpgrader$CallStack;"⟩, 5) := ⟨⟨by decide +kernel, by decide +kernel⟩, List.mem_of_getElem? (i := 12) (by decide +kernel), List.mem_of_getElem? (i := 267) (by decide +kernel), List.mem_of_getElem? (i := 268) (by decide +kernel)⟩
theorem lw_p4 : lw_okq (⟨"LiveUpgrader", "access", "(III)I"⟩, 5) := ⟨⟨by decide +kernel, by decide +kernel⟩, List.mem_of_getElem? (i := 12) (by decide +kernel), List.mem_of_getElem? (i := 366) (by decide +kernel), List.mem_of_getElem? (i := 367) (by decide +kernel)⟩
theorem lw_p5 : lw_okq (⟨"LiveUpgrader", "existingObject", "(I)LLiveUpgrader$StoredObject;"⟩, 5) := ⟨⟨by decide +kernel, by decide +kernel⟩, List.mem_of_getElem? (i := 12) (by decide +kernel), List.mem_of_getElem? (i := 370) (by decide +kernel), List.mem_of_getElem? (i := 371) (by decide +kernel)⟩
theorem lw_p6 : lw_okq (⟨"LiveUpgrader", "smallestPin", "(I)I"⟩, 5) := ⟨⟨by decide +kernel, by decide +kernel⟩, List.mem_of_getElem? (i := 12) (by decide +kernel), List.mem_of_getElem? (i := 377) (by decide +kernel), List.mem_of_getElem? (i := 378) (by decide +kernel)⟩
theorem lw_p7 : lw_okq (⟨"LiveUpgrader", "outdatedObject", "(ILLiveUpgrader$ClassHistory;)LLiveUpgrader$StoredObject;"⟩, 5) := ⟨⟨by decide +kernel, by decide +kernel⟩, List.mem_of_getElem? (i := 12) (by decide +kernel), List.mem_of_getElem? (i := 448) (by decide +kernel), List.mem_of_getElem? (i := 449) (by decide +kernel)⟩
theorem lw_p8 : lw_okq (⟨"LiveUpgraderModel", "isClass", "(I)Z"⟩, 12) := ⟨⟨by decide +kernel, by decide +kernel⟩, List.mem_of_getElem? (i := 456) (by decide +kernel), List.mem_of_getElem? (i := 516) (by decide +kernel), List.mem_of_getElem? (i := 517) (by decide +kernel)⟩
theorem lw_p9 : lw_okq (⟨"LiveUpgraderModel", "current", "(I)I"⟩, 12) := ⟨⟨by decide +kernel, by decide +kernel⟩, List.mem_of_getElem? (i := 456) (by decide +kernel), List.mem_of_getElem? (i := 520) (by decide +kernel), List.mem_of_getElem? (i := 521) (by decide +kernel)⟩
theorem lw_p10 : lw_okq (⟨"LiveUpgraderModel", "of", "(II)I"⟩, 12) := ⟨⟨by decide +kernel, by decide +kernel⟩, List.mem_of_getElem? (i := 456) (by decide +kernel), List.mem_of_getElem? (i := 524) (by decide +kernel), List.mem_of_getElem? (i := 525) (by decide +kernel)⟩
theorem lw_p11 : lw_okq (⟨"LiveUpgraderModel", "wrongStage", "(I)I"⟩, 12) := ⟨⟨by decide +kernel, by decide +kernel⟩, List.mem_of_getElem? (i := 456) (by decide +kernel), List.mem_of_getElem? (i := 543) (by decide +kernel), List.mem_of_getElem? (i := 544) (by decide +kernel)⟩
theorem lw_p12 : lw_okq (⟨"LiveUpgraderModel", "stagedNow", "(I)I"⟩, 12) := ⟨⟨by decide +kernel, by decide +kernel⟩, List.mem_of_getElem? (i := 456) (by decide +kernel), List.mem_of_getElem? (i := 548) (by decide +kernel), List.mem_of_getElem? (i := 549) (by decide +kernel)⟩
theorem lw_p13 : lw_okq (⟨"LiveUpgraderModel", "append", "(IIIII)I"⟩, 12) := ⟨⟨by decide +kernel, by decide +kernel⟩, List.mem_of_getElem? (i := 456) (by decide +kernel), List.mem_of_getElem? (i := 561) (by decide +kernel), List.mem_of_getElem? (i := 562) (by decide +kernel)⟩
theorem lw_p14 : lw_okq (⟨"LiveUpgraderModel", "runs", "(II)Z"⟩, 12) := ⟨⟨by decide +kernel, by decide +kernel⟩, List.mem_of_getElem? (i := 456) (by decide +kernel), List.mem_of_getElem? (i := 596) (by decide +kernel), List.mem_of_getElem? (i := 597) (by decide +kernel)⟩
theorem lw_p15 : lw_okq (⟨"LiveUpgraderModel", "isThere", "(I)Z"⟩, 12) := ⟨⟨by decide +kernel, by decide +kernel⟩, List.mem_of_getElem? (i := 456) (by decide +kernel), List.mem_of_getElem? (i := 600) (by decide +kernel), List.mem_of_getElem? (i := 601) (by decide +kernel)⟩
def lw_privs_1 : List (MethodName × Nat) := [(⟨"LiveUpgrader", "historyOf", "(I)LLiveUpgrader$ClassHistory;"⟩, 5), (⟨"LiveUpgrader", "countFrames", "(III)I"⟩, 5), (⟨"LiveUpgrader", "rollBackObjects", "(II)V"⟩, 5), (⟨"LiveUpgrader", "stackOf", "(I)LLiveUpgrader$CallStack;"⟩, 5), (⟨"LiveUpgrader", "access", "(III)I"⟩, 5), (⟨"LiveUpgrader", "existingObject", "(I)LLiveUpgrader$StoredObject;"⟩, 5), (⟨"LiveUpgrader", "smallestPin", "(I)I"⟩, 5), (⟨"LiveUpgrader", "outdatedObject", "(ILLiveUpgrader$ClassHistory;)LLiveUpgrader$StoredObject;"⟩, 5), (⟨"LiveUpgraderModel", "isClass", "(I)Z"⟩, 12), (⟨"LiveUpgraderModel", "current", "(I)I"⟩, 12), (⟨"LiveUpgraderModel", "of", "(II)I"⟩, 12), (⟨"LiveUpgraderModel", "wrongStage", "(I)I"⟩, 12), (⟨"LiveUpgraderModel", "stagedNow", "(I)I"⟩, 12), (⟨"LiveUpgraderModel", "append", "(IIIII)I"⟩, 12), (⟨"LiveUpgraderModel", "runs", "(II)Z"⟩, 12), (⟨"LiveUpgraderModel", "isThere", "(I)Z"⟩, 12)]
theorem lw_r1 : ∀ q ∈ lw_privs_1, lw_okq q := List.forall_mem_cons.mpr ⟨lw_p0, List.forall_mem_cons.mpr ⟨lw_p1, List.forall_mem_cons.mpr ⟨lw_p2, List.forall_mem_cons.mpr ⟨lw_p3, List.forall_mem_cons.mpr ⟨lw_p4, List.forall_mem_cons.mpr ⟨lw_p5, List.forall_mem_cons.mpr ⟨lw_p6, List.forall_mem_cons.mpr ⟨lw_p7, List.forall_mem_cons.mpr ⟨lw_p8, List.forall_mem_cons.mpr ⟨lw_p9, List.forall_mem_cons.mpr ⟨lw_p10, List.forall_mem_cons.mpr ⟨lw_p11, List.forall_mem_cons.mpr ⟨lw_p12, List.forall_mem_cons.mpr ⟨lw_p13, List.forall_mem_cons.mpr ⟨lw_p14, List.forall_mem_cons.mpr ⟨lw_p15, fun _ h => absurd h List.not_mem_nil⟩⟩⟩⟩⟩⟩⟩⟩⟩⟩⟩⟩⟩⟩⟩⟩
theorem lw_p16 : lw_okq (⟨"LiveUpgraderModel", "delete", "(I)V"⟩, 12) := ⟨⟨by decide +kernel, by decide +kernel⟩, List.mem_of_getElem? (i := 456) (by decide +kernel), List.mem_of_getElem? (i := 605) (by decide +kernel), List.mem_of_getElem? (i := 606) (by decide +kernel)⟩
theorem lw_p17 : lw_okq (⟨"LiveUpgraderModel", "access", "(III)I"⟩, 12) := ⟨⟨by decide +kernel, by decide +kernel⟩, List.mem_of_getElem? (i := 456) (by decide +kernel), List.mem_of_getElem? (i := 649) (by decide +kernel), List.mem_of_getElem? (i := 650) (by decide +kernel)⟩
theorem lw_p18 : lw_okq (⟨"LiveUpgraderModel", "isObject", "(I)Z"⟩, 12) := ⟨⟨by decide +kernel, by decide +kernel⟩, List.mem_of_getElem? (i := 456) (by decide +kernel), List.mem_of_getElem? (i := 653) (by decide +kernel), List.mem_of_getElem? (i := 654) (by decide +kernel)⟩
theorem lw_p19 : lw_okq (⟨"LiveUpgraderModel", "isHeldBelow", "(II)Z"⟩, 12) := ⟨⟨by decide +kernel, by decide +kernel⟩, List.mem_of_getElem? (i := 456) (by decide +kernel), List.mem_of_getElem? (i := 660) (by decide +kernel), List.mem_of_getElem? (i := 661) (by decide +kernel)⟩
theorem lw_p20 : lw_okq (⟨"LiveUpgraderModel", "convert", "(II)Z"⟩, 12) := ⟨⟨by decide +kernel, by decide +kernel⟩, List.mem_of_getElem? (i := 456) (by decide +kernel), List.mem_of_getElem? (i := 665) (by decide +kernel), List.mem_of_getElem? (i := 666) (by decide +kernel)⟩
theorem lw_p21 : lw_okq (⟨"LiveUpgraderModel", "convertOnce", "(II)Z"⟩, 12) := ⟨⟨by decide +kernel, by decide +kernel⟩, List.mem_of_getElem? (i := 456) (by decide +kernel), List.mem_of_getElem? (i := 669) (by decide +kernel), List.mem_of_getElem? (i := 670) (by decide +kernel)⟩
def lw_privs_2 : List (MethodName × Nat) := [(⟨"LiveUpgraderModel", "delete", "(I)V"⟩, 12), (⟨"LiveUpgraderModel", "access", "(III)I"⟩, 12), (⟨"LiveUpgraderModel", "isObject", "(I)Z"⟩, 12), (⟨"LiveUpgraderModel", "isHeldBelow", "(II)Z"⟩, 12), (⟨"LiveUpgraderModel", "convert", "(II)Z"⟩, 12), (⟨"LiveUpgraderModel", "convertOnce", "(II)Z"⟩, 12)]
theorem lw_r2 : ∀ q ∈ lw_privs_2, lw_okq q := List.forall_mem_cons.mpr ⟨lw_p16, List.forall_mem_cons.mpr ⟨lw_p17, List.forall_mem_cons.mpr ⟨lw_p18, List.forall_mem_cons.mpr ⟨lw_p19, List.forall_mem_cons.mpr ⟨lw_p20, List.forall_mem_cons.mpr ⟨lw_p21, fun _ h => absurd h List.not_mem_nil⟩⟩⟩⟩⟩⟩
def lw_privs : List (MethodName × Nat) := lw_privs_1 ++ (lw_privs_2)
def lw_tbl : List Cond := k2_sels lw_privs ++ tables_1
theorem lw_privs_ok : ∀ q ∈ lw_privs, lw_okq q := by
  show ∀ q ∈ lw_privs_1 ++ (lw_privs_2), lw_okq q
  exact List.forall_mem_append.mpr ⟨lw_r1, lw_r2⟩
-- ===== end of PART A; then your names; then what follows =====
/-! ===== BEGIN words of one list among another's, by their places ===== -/
theorem goodIn_r {big : List Cond} (ws : List Cond) (ps : List Nat) (hp : ws = ps.filterMap (fun i => big[i]?)) (h : ws.all goodWord = true) : GoodIn big ws := by
  intro w hw
  have h1 := List.all_eq_true.mp h w hw
  rw [hp] at hw
  obtain ⟨i, -, hi⟩ := List.mem_filterMap.mp hw
  have hm : w ∈ big := by first | exact List.mem_of_getElem? hi | exact List.getElem?_mem hi
  exact ⟨hm, good_of_word h1⟩
theorem goodIn_app {big a b : List Cond} (ha : GoodIn big a) (hb : GoodIn big b) : GoodIn big (a ++ b) := fun w h => (List.mem_append.mp h).elim (ha w) (hb w)
theorem goodIn_ca {big a b : List Cond} {c : Cond} (ha : GoodIn big (c :: a)) (hb : GoodIn big b) : GoodIn big (c :: (a ++ b)) := fun w h => (List.mem_cons.mp h).elim (fun e => ha w (List.mem_cons.mpr (Or.inl e))) (fun h => (List.mem_append.mp h).elim (fun h => ha w (List.mem_cons.mpr (Or.inr h))) (hb w))
theorem goodIn_sub {big ws : List Cond} (hm : ∀ w ∈ ws, w ∈ big) (h : ws.all goodWord = true) : GoodIn big ws := fun w hw => ⟨hm w hw, good_of_word (List.all_eq_true.mp h w hw)⟩
/-! ===== END ===== -/

/-! ===== BEGIN new T[n][m]: the outer array a place, the inner ones among the pooled ===== -/
/-- f, but v at every address of l -/
def vr_up {α : Type} (f : Nat → α) (l : List Nat) (v : α) : Nat → α := fun a => if a ∈ l then v else f a
theorem vr_up_in {α : Type} {f : Nat → α} {l : List Nat} {v : α} {a : Nat} (h : a ∈ l) : vr_up f l v a = v := if_pos h
theorem vr_up_ne {α : Type} {f : Nat → α} {l : List Nat} {v : α} {a : Nat} (h : a ∉ l) : vr_up f l v a = f a := if_neg h
theorem vr_rows {L l : List Nat} {f : Nat → va_E} {e : va_E} (h : ∀ a, a ∈ l → a ∉ L) : va_pl L f ++ l.map (fun a => (a, e)) = va_pl (L ++ l) (vr_up f l e) := by
  unfold va_pl
  rw [List.map_append]
  congr 1
  · apply List.map_congr_left
    intro a ha
    rw [vr_up_ne (fun q => h a q ha)]
  · apply List.map_congr_left
    intro a ha
    rw [vr_up_in ha]
theorem vr_lay {X rows : va_W} {x : Nat × va_E} {pl : va_W} {D : va_G} {cl : List vw_C} {H : Heap} (hP : va_P D cl (((X ++ pl) ++ [x]) ++ rows) H) : va_P D cl ((X ++ [x]) ++ (pl ++ rows)) H := by
  rw [List.append_assoc (X ++ pl)] at hP
  have h := va_P.swap hP
  rw [← List.append_assoc X] at h
  have h2 := va_P.swap h
  rw [List.append_assoc (X ++ [x])] at h2
  exact h2
theorem vr_layD {X rows : va_W} {x : Nat × va_E} {pl : va_W} {A : Nat → Prop} (hD : va_D A (((X ++ pl) ++ [x]) ++ rows)) : va_D A ((X ++ [x]) ++ (pl ++ rows)) := by
  rw [List.append_assoc (X ++ pl)] at hD
  have h := va_D.swap hD
  rw [← List.append_assoc X] at h
  have h2 := va_D.swap h
  rw [List.append_assoc (X ++ [x])] at h2
  exact h2
theorem vr_outer (c : ClassId) (N h0 : Nat) : ∀ i : Nat, Jvm.Free.Multi.outerC c N h0 i = arrV c N (fun j => va_rf (if j < i then some (h0 + 1 + j) else none))
  | 0 => by
    show ({ cls := c, slots := Array.replicate N .null, vm := .none } : Cell) = _
    rw [arrV_new]
    refine congrArg (arrV c N) (funext fun j => ?_)
    simp [va_rf]
  | i + 1 => by
    show (Jvm.Free.Multi.outerC c N h0 i).setSlot i (.ref (h0 + 1 + i)) = _
    rw [vr_outer c N h0 i, arrV_store]
    refine congrArg (arrV c N) (funext fun j => ?_)
    by_cases e : j = i
    · subst e
      simp [updV, va_rf]
    · by_cases h : j < i
      · simp [updV, e, h, Nat.lt_succ_of_lt h]
      · simp [updV, e, h, show ¬ j < i + 1 by omega]
def va_AOA (t : FieldType) (U : State) : Prop := (Cond.arrayOver (.array t)).before #[] U = true
theorem va_AOA.use {t : FieldType} {A : Array Value} {U : State} (h : va_AOA t U) : (Cond.arrayOver (.array t)).before A U = true := h
section VGM
variable {p : Program} {l : Launch} {e : Env} {R : Room} {s : State} {m : MethodId} {args : Array Value} {below : List Frame} {meth : Method} {c : Code} {H : Heap} {locs : List Loc} {cells slots : Nat} {Q : State → Prop}
variable {cc : ByteArray} {pc : Nat} {ls : Array Slot} {rest : List Value} {D : va_G} {cl : List vw_C} {A : Nat → Prop} {a : Nat} {tys : List (ClassId × FieldType)} {ws : va_W} {H0 : Heap}
theorem va_mna {X : va_W} {L : List Nat} {f : Nat → va_E} {cc : ByteArray} (hexec : p.tables.exec = Jvm.exec) (hb : c.code = cc) {own : String} {index : Nat} {ty : FieldType} {cy : ClassId} (hown : s.vm.findClass own = some m.cls) (hclink : (Cond.classLink own index ("[" ++ (FieldType.array ty).toString)).before args s = true) (hover : va_AOA ty s) (harr : (Cond.arrayClass ty).before args s = true) (hcy : s.vm.findClass (FieldType.array ty).toString = some cy)
    (hK : va_K D cl tys s) (hP : va_P D cl (X ++ va_pl L f) H) (hD : va_D A (X ++ va_pl L f)) (hS : va_S A H0 H locs) (hA : ∀ q, H0.size ≤ q → A q) {n k : Int32} {N' K' : Nat} {z : vp_A} (hn : ¬ n < 0) (hk : ¬ k < 0) (hN : n.toNatClampNeg = N') (hM : k.toNatClampNeg = K')
    (hb1 : N' * 4 ≤ 536870912) (hb2 : K' * componentBytes ty ≤ 536870912) (hb3 : K' ≤ 536870912) (hdf : fits ty (defaultValue ty) = true) (hdd : (defaultValue ty).isDefault = true) (hcells : cells + (1 + N') ≤ R.cells) (hslots : slots + (N' + N' * K') ≤ R.slots) (hz : ∀ c : ClassId, Jvm.Free.Multi.innerC c K' (defaultValue ty) = vp_cell c z) (hdg : decode cc pc = .ok (.multianewarray index 2, 4))
    (kk : ∀ (q : Nat) (r : Nat → Nat) (cA : ClassId) (H1 : Heap), (∀ i j : Nat, i < N' → j < N' → r i = r j → i = j) → (∀ i : Nat, i < N' → r i ∉ L) → va_K D cl (tys ++ [(cA, .array ty)]) s →
      va_P D cl ((X ++ [(q, .inl (cA, N', .inr (.inr (.inr (.inr (fun i => if i < N' then some (r i) else none))))))]) ++ va_pl (L ++ (List.range N').map r) (vr_up f ((List.range N').map r) (.inl (cy, z)))) H1 → va_D A ((X ++ [(q, .inl (cA, N', .inr (.inr (.inr (.inr (fun i => if i < N' then some (r i) else none))))))]) ++ va_pl (L ++ (List.range N').map r) (vr_up f ((List.range N').map r) (.inl (cy, z)))) → va_S A H0 H1 locs →
      W p l e R s m args below meth c H1 locs (cells + 1 + N') (slots + N' + N' * K') Q (F0 m (pc + 4) ls (.ref q :: rest))) : W p l e R s m args below meth c H locs cells slots Q (F0 m pc ls (.int k :: .int n :: rest)) := by
  subst hN
  subst hM
  intro T hT Xs
  obtain ⟨vm₁, cA, comp, -, fA, fC, hO, -, X', step⟩ := Xs.multianewarray2F hexec hown hclink (va_AOA.use hover) harr (g := F0 m pc ls (.int k :: .int n :: rest)) rfl (by rw [hb]; exact hdg) rfl hn hk hb1 hb2 hb3 hdf hdd hcells hslots
  have ec : some cy = some comp := hcy.symm.trans fC
  cases ec
  generalize hF : Jvm.Free.Multi.fill (T.setVm vm₁) cA cy n.toNatClampNeg k.toNatClampNeg (defaultValue ty) n.toNatClampNeg = F at X' step
  have hTh : (T.setVm vm₁).heap = H := hT
  obtain ⟨f1, f2, -, -⟩ := Jvm.Free.Multi.fill_facts (T.setVm vm₁) cA cy n.toNatClampNeg k.toNatClampNeg (defaultValue ty) n.toNatClampNeg
  rw [hF, hTh] at f1 f2
  have hold : ∀ x : Nat, x < H.size → F.heap[x]? = H[x]? := fun x hx => by
    have := Jvm.Free.Multi.fill_old (T.setVm vm₁) cA cy n.toNatClampNeg k.toNatClampNeg (defaultValue ty) (a := x) (by rw [hTh]; exact hx) n.toNatClampNeg
    rw [hF, hTh] at this
    exact this
  have hrow : ∀ j : Nat, j < n.toNatClampNeg → F.heap[H.size + 1 + j]? = some (vp_cell cy z) := fun j hj => by
    have := Jvm.Free.Multi.fill_inner (T.setVm vm₁) cA cy n.toNatClampNeg k.toNatClampNeg (defaultValue ty) n.toNatClampNeg j hj
    rw [hF, hTh, hz] at this
    exact this
  have hout : Jvm.Free.Multi.outerC cA n.toNatClampNeg H.size n.toNatClampNeg = vp_cell cA (n.toNatClampNeg, .inr (.inr (.inr (.inr (fun i => if i < n.toNatClampNeg then some (H.size + 1 + i) else none))))) := by
    rw [vp_cell_q]
    exact vr_outer cA n.toNatClampNeg H.size n.toNatClampNeg
  rw [hout] at f2
  have hlt : ∀ a, a ∈ L → a < H.size := fun a ha => by
    obtain ⟨k9, hk9⟩ := va_pl_get (X := X) (f := f) ha
    exact (hP k9 _ hk9).lt
  have hnl : ∀ i : Nat, i < n.toNatClampNeg → H.size + 1 + i ∉ L := fun i _ h => by
    have := hlt _ h
    omega
  have hnm : ∀ a, a ∈ (List.range n.toNatClampNeg).map (fun i => H.size + 1 + i) → a ∉ L := fun a ha h => by
    obtain ⟨i, -, rfl⟩ := List.mem_map.mp ha
    have := hlt _ h
    omega
  have hP0 : va_P D cl (X ++ va_pl L f) F.heap := hP.kept (fun k9 x hx => hold x.1 ((hP k9 x hx).lt))
  have hP1 : va_P D cl ((X ++ va_pl L f) ++ [(H.size, .inl (cA, n.toNatClampNeg, .inr (.inr (.inr (.inr (fun i => if i < n.toNatClampNeg then some (H.size + 1 + i) else none))))))]) F.heap := hP0.app (fun k9 x hx => by
    have h0 : k9 < 1 := (List.getElem?_eq_some_iff.mp hx).1
    rw [show k9 = 0 by omega] at hx
    cases hx
    exact f2)
  have hP2 : va_P D cl (((X ++ va_pl L f) ++ [(H.size, .inl (cA, n.toNatClampNeg, .inr (.inr (.inr (.inr (fun i => if i < n.toNatClampNeg then some (H.size + 1 + i) else none))))))]) ++ ((List.range n.toNatClampNeg).map (fun i => H.size + 1 + i)).map (fun a => (a, .inl (cy, z)))) F.heap := hP1.app (fun k9 x hx => by
    obtain ⟨a, ha, rfl⟩ := List.mem_map.mp (List.mem_of_getElem? hx)
    obtain ⟨i, hi, rfl⟩ := List.mem_map.mp ha
    exact hrow i (List.mem_range.mp hi))
  have hD2 : va_D A (((X ++ va_pl L f) ++ [(H.size, .inl (cA, n.toNatClampNeg, .inr (.inr (.inr (.inr (fun i => if i < n.toNatClampNeg then some (H.size + 1 + i) else none))))))]) ++ ((List.range n.toNatClampNeg).map (fun i => H.size + 1 + i)).map (fun a => (a, .inl (cy, z)))) := by
    have hD1 := hD.push (e := .inl (cA, n.toNatClampNeg, .inr (.inr (.inr (.inr (fun i => if i < n.toNatClampNeg then some (H.size + 1 + i) else none)))))) hP rfl (hA _ hS.1)
    generalize hW1 : (X ++ va_pl L f) ++ [(H.size, .inl (cA, n.toNatClampNeg, .inr (.inr (.inr (.inr (fun i => if i < n.toNatClampNeg then some (H.size + 1 + i) else none))))))] = W1 at hD1 hP1 ⊢
    have hle : ∀ (k9 : Nat) (x : Nat × va_E), W1[k9]? = some x → x.1 ≤ H.size := fun k9 x hx => by
      rw [← hW1] at hx
      by_cases hl : k9 < (X ++ va_pl L f).length
      · rw [List.getElem?_append_left hl] at hx
        exact Nat.le_of_lt ((hP k9 x hx).lt)
      · rw [List.getElem?_append_right (by omega)] at hx
        have h0 : k9 - (X ++ va_pl L f).length < 1 := (List.getElem?_eq_some_iff.mp hx).1
        rw [show k9 - (X ++ va_pl L f).length = 0 by omega] at hx
        cases hx
        exact Nat.le_refl _
    have hr : ∀ (k9 : Nat) (x : Nat × va_E), (((List.range n.toNatClampNeg).map (fun i => H.size + 1 + i)).map (fun a => ((a, .inl (cy, z)) : Nat × va_E)))[k9]? = some x → x.1 = H.size + 1 + k9 := fun k9 x hx => by
      rw [List.getElem?_map, List.getElem?_map] at hx
      by_cases h9 : k9 < n.toNatClampNeg
      · rw [List.getElem?_range h9] at hx
        cases hx
        rfl
      · have hn0 : (List.range n.toNatClampNeg)[k9]? = none := List.getElem?_eq_none (by rw [List.length_range]; omega)
        rw [hn0] at hx
        cases hx
    refine ⟨fun i j x y hi hj hxy => ?_, fun k9 x hx => ?_⟩
    · by_cases h1 : i < W1.length <;> by_cases h2 : j < W1.length
      · rw [List.getElem?_append_left h1] at hi
        rw [List.getElem?_append_left h2] at hj
        exact hD1.1 i j x y hi hj hxy
      · rw [List.getElem?_append_left h1] at hi
        rw [List.getElem?_append_right (by omega)] at hj
        have := hle _ _ hi
        have := hr _ _ hj
        omega
      · rw [List.getElem?_append_right (by omega)] at hi
        rw [List.getElem?_append_left h2] at hj
        have := hle _ _ hj
        have := hr _ _ hi
        omega
      · rw [List.getElem?_append_right (by omega)] at hi hj
        have := hr _ _ hi
        have := hr _ _ hj
        omega
    · by_cases h1 : k9 < W1.length
      · rw [List.getElem?_append_left h1] at hx
        exact hD1.2 k9 x hx
      · rw [List.getElem?_append_right (by omega)] at hx
        have := hr _ _ hx
        exact hA _ (by have := hS.1; omega)
  have hAr : ArrOfT s cA (.array ty) := fun N9 z9 => by
    obtain ⟨-, k9, hk9, cm9, hkk9⟩ := (hO 0 0 0).1
    exact ⟨(fun q hq => by cases hq), k9, hk9, cm9, hkk9⟩
  have hK2 : va_K D cl (tys ++ [(cA, .array ty)]) s := ⟨hK.1, fun k9 x hx => by
    by_cases hl : k9 < tys.length
    · rw [List.getElem?_append_left hl] at hx
      exact hK.2 k9 x hx
    · rw [List.getElem?_append_right (by omega)] at hx
      have h0 : k9 - tys.length < 1 := (List.getElem?_eq_some_iff.mp hx).1
      rw [show k9 - tys.length = 0 by omega] at hx
      cases hx
      exact ⟨hAr, fA⟩⟩
  obtain ⟨t, a1, b1⟩ := kk H.size (fun i => H.size + 1 + i) cA F.heap (fun i j _ _ h => by have h9 : H.size + 1 + i = H.size + 1 + j := h; omega) hnl hK2 (by rw [← vr_rows hnm]; exact vr_lay hP2) (by rw [← vr_rows hnm]; exact vr_layD hD2) ⟨by rw [f1]; have := hS.1; omega, fun x h1 h2 => (hold x (Nat.lt_of_lt_of_le h1 hS.1)).trans (hS.2.1 x h1 h2), hS.2.2⟩ F rfl X'
  refine ⟨t, step t ?_, b1⟩
  have e : T.heap.size = H.size := by rw [hT]
  rw [e]
  exact a1
end VGM
/-! ===== END ===== -/

/-! ===== BEGIN printed: names, fields, word lists, decode rows ===== -/
def RX0 : String := "LiveUpgrader$CallStack"
def TX0 : u_T := fun k => match k with
  | 0 => ("LiveUpgrader$CallStack", "frames", "[LLiveUpgrader$Frame;", true)
  | _ => ("LiveUpgrader$CallStack", "size", "I", false)
def tyX0 : Nat → FieldType := fun k => match k with
  | 0 => .array (.object "LiveUpgrader$Frame")
  | _ => .int
abbrev wsX00 : List Cond := u_ws RX0 TX0 2
theorem nmX0 : ∀ a, a < 2 → ∀ b, b < 2 → a ≠ b → (TX0 a).2.1 ≠ (TX0 b).2.1 := by decide +kernel
theorem tyX0_ok : ∀ k, k < 2 → parseFieldDescriptor (TX0 k).2.2.1 = some (tyX0 k) := by decide +kernel
abbrev cX0_init : ByteArray := prog_2_method_1_code
def yX0_init : MethodName := ⟨RX0, "<init>", "()V"⟩
abbrev cX0_push : ByteArray := prog_2_method_2_code
def yX0_push : MethodName := ⟨RX0, "push", "(LLiveUpgrader$ClassHistory;)I"⟩
abbrev cX0_pop : ByteArray := prog_2_method_3_code
def yX0_pop : MethodName := ⟨RX0, "pop", "()I"⟩
abbrev cX0_frameAt : ByteArray := prog_2_method_4_code
def yX0_frameAt : MethodName := ⟨RX0, "frameAt", "(I)LLiveUpgrader$Frame;"⟩
abbrev cX0_top : ByteArray := prog_2_method_5_code
def yX0_top : MethodName := ⟨RX0, "top", "()LLiveUpgrader$Frame;"⟩
abbrev cX0_countFrames : ByteArray := prog_2_method_6_code
def yX0_countFrames : MethodName := ⟨RX0, "countFrames", "(III)I"⟩
abbrev cX0_smallestPin : ByteArray := prog_2_method_7_code
def yX0_smallestPin : MethodName := ⟨RX0, "smallestPin", "(I)I"⟩
def RX1 : String := "LiveUpgrader$ClassHistory"
def TX1 : u_T := fun k => match k with
  | 0 => ("LiveUpgrader$ClassHistory", "type", "I", true)
  | 1 => ("LiveUpgrader$ClassHistory", "fieldSets", "[I", true)
  | 2 => ("LiveUpgrader$ClassHistory", "converters", "[LLiveUpgrader$Converter;", true)
  | 3 => ("LiveUpgrader$ClassHistory", "current", "I", false)
  | _ => ("LiveUpgrader$ClassHistory", "staged", "Z", false)
def tyX1 : Nat → FieldType := fun k => match k with
  | 0 => .int
  | 1 => .array .int
  | 2 => .array (.object "LiveUpgrader$Converter")
  | 3 => .int
  | _ => .boolean
abbrev wsX10 : List Cond := u_ws RX1 TX1 5
theorem nmX1 : ∀ a, a < 5 → ∀ b, b < 5 → a ≠ b → (TX1 a).2.1 ≠ (TX1 b).2.1 := by decide +kernel
theorem tyX1_ok : ∀ k, k < 5 → parseFieldDescriptor (TX1 k).2.2.1 = some (tyX1 k) := by decide +kernel
abbrev cX1_init : ByteArray := prog_3_method_1_code
def yX1_init : MethodName := ⟨RX1, "<init>", "(II)V"⟩
abbrev cX1_fieldSet : ByteArray := prog_3_method_2_code
def yX1_fieldSet : MethodName := ⟨RX1, "fieldSet", "(I)I"⟩
abbrev cX1_stagedSet : ByteArray := prog_3_method_3_code
def yX1_stagedSet : MethodName := ⟨RX1, "stagedSet", "()I"⟩
abbrev cX1_isFull : ByteArray := prog_3_method_4_code
def yX1_isFull : MethodName := ⟨RX1, "isFull", "()Z"⟩
abbrev cX1_beginStaged : ByteArray := prog_3_method_5_code
def yX1_beginStaged : MethodName := ⟨RX1, "beginStaged", "()I"⟩
abbrev cX1_append : ByteArray := prog_3_method_6_code
def yX1_append : MethodName := ⟨RX1, "append", "(III)I"⟩
abbrev cX1_activateStaged : ByteArray := prog_3_method_7_code
def yX1_activateStaged : MethodName := ⟨RX1, "activateStaged", "()I"⟩
abbrev cX1_discardStaged : ByteArray := prog_3_method_8_code
def yX1_discardStaged : MethodName := ⟨RX1, "discardStaged", "()I"⟩
abbrev cX1_removeCurrent : ByteArray := prog_3_method_9_code
def yX1_removeCurrent : MethodName := ⟨RX1, "removeCurrent", "()I"⟩
def RX2 : String := "LiveUpgrader$Converter"
def TX2 : u_T := fun k => match k with
  | 0 => ("LiveUpgrader$Converter", "steps", "[LLiveUpgrader$Step;", true)
  | _ => ("LiveUpgrader$Converter", "length", "I", false)
def tyX2 : Nat → FieldType := fun k => match k with
  | 0 => .array (.object "LiveUpgrader$Step")
  | _ => .int
abbrev wsX20 : List Cond := u_ws RX2 TX2 2
theorem nmX2 : ∀ a, a < 2 → ∀ b, b < 2 → a ≠ b → (TX2 a).2.1 ≠ (TX2 b).2.1 := by decide +kernel
theorem tyX2_ok : ∀ k, k < 2 → parseFieldDescriptor (TX2 k).2.2.1 = some (tyX2 k) := by decide +kernel
abbrev cX2_init : ByteArray := prog_4_method_1_code
def yX2_init : MethodName := ⟨RX2, "<init>", "()V"⟩
abbrev cX2_clear : ByteArray := prog_4_method_2_code
def yX2_clear : MethodName := ⟨RX2, "clear", "()V"⟩
abbrev cX2_isFull : ByteArray := prog_4_method_3_code
def yX2_isFull : MethodName := ⟨RX2, "isFull", "()Z"⟩
abbrev cX2_append : ByteArray := prog_4_method_4_code
def yX2_append : MethodName := ⟨RX2, "append", "(LLiveUpgrader$Step;)I"⟩
abbrev cX2_applyTo : ByteArray := prog_4_method_5_code
def yX2_applyTo : MethodName := ⟨RX2, "applyTo", "([I)Z"⟩
def RX3 : String := "LiveUpgrader$Frame"
def TX3 : u_T := fun k => match k with
  | 0 => ("LiveUpgrader$Frame", "history", "LLiveUpgrader$ClassHistory;", true)
  | 1 => ("LiveUpgrader$Frame", "version", "I", true)
  | _ => ("LiveUpgrader$Frame", "pins", "I", false)
def tyX3 : Nat → FieldType := fun k => match k with
  | 0 => .object "LiveUpgrader$ClassHistory"
  | 1 => .int
  | _ => .int
abbrev wsX30 : List Cond := u_ws RX3 TX3 3
theorem nmX3 : ∀ a, a < 3 → ∀ b, b < 3 → a ≠ b → (TX3 a).2.1 ≠ (TX3 b).2.1 := by decide +kernel
theorem tyX3_ok : ∀ k, k < 3 → parseFieldDescriptor (TX3 k).2.2.1 = some (tyX3 k) := by decide +kernel
abbrev cX3_init : ByteArray := prog_5_method_1_code
def yX3_init : MethodName := ⟨RX3, "<init>", "(LLiveUpgrader$ClassHistory;)V"⟩
abbrev cX3_pin : ByteArray := prog_5_method_2_code
def yX3_pin : MethodName := ⟨RX3, "pin", "(I)V"⟩
abbrev cX3_pins : ByteArray := prog_5_method_3_code
def yX3_pins : MethodName := ⟨RX3, "pins", "(I)Z"⟩
def RX4 : String := "LiveUpgrader$Step"
def TX4 : u_T := fun k => match k with
  | 0 => ("LiveUpgrader$Step", "kind", "I", true)
  | 1 => ("LiveUpgrader$Step", "field", "I", true)
  | _ => ("LiveUpgrader$Step", "operand", "I", true)
def tyX4 : Nat → FieldType := fun k => match k with
  | 0 => .int
  | 1 => .int
  | _ => .int
abbrev wsX40 : List Cond := u_ws RX4 TX4 3
theorem nmX4 : ∀ a, a < 3 → ∀ b, b < 3 → a ≠ b → (TX4 a).2.1 ≠ (TX4 b).2.1 := by decide +kernel
theorem tyX4_ok : ∀ k, k < 3 → parseFieldDescriptor (TX4 k).2.2.1 = some (tyX4 k) := by decide +kernel
abbrev cX4_init : ByteArray := prog_6_method_1_code
def yX4_init : MethodName := ⟨RX4, "<init>", "(III)V"⟩
abbrev cX4_changedSet : ByteArray := prog_6_method_2_code
def yX4_changedSet : MethodName := ⟨RX4, "changedSet", "(I)I"⟩
abbrev cX4_applyTo : ByteArray := prog_6_method_3_code
def yX4_applyTo : MethodName := ⟨RX4, "applyTo", "([I)Z"⟩
abbrev cX4_put : ByteArray := prog_6_method_4_code
def yX4_put : MethodName := ⟨RX4, "put", "([IIJ)Z"⟩
def RX5 : String := "LiveUpgrader$StoredObject"
def TX5 : u_T := fun k => match k with
  | 0 => ("LiveUpgrader$StoredObject", "history", "LLiveUpgrader$ClassHistory;", true)
  | 1 => ("LiveUpgrader$StoredObject", "firstVersion", "I", true)
  | 2 => ("LiveUpgrader$StoredObject", "version", "I", false)
  | _ => ("LiveUpgrader$StoredObject", "rows", "[[I", true)
def tyX5 : Nat → FieldType := fun k => match k with
  | 0 => .object "LiveUpgrader$ClassHistory"
  | 1 => .int
  | 2 => .int
  | _ => .array (.array .int)
abbrev wsX50 : List Cond := u_ws RX5 TX5 4
theorem nmX5 : ∀ a, a < 4 → ∀ b, b < 4 → a ≠ b → (TX5 a).2.1 ≠ (TX5 b).2.1 := by decide +kernel
theorem tyX5_ok : ∀ k, k < 4 → parseFieldDescriptor (TX5 k).2.2.1 = some (tyX5 k) := by decide +kernel
abbrev cX5_init : ByteArray := prog_7_method_1_code
def yX5_init : MethodName := ⟨RX5, "<init>", "(LLiveUpgrader$ClassHistory;I)V"⟩
abbrev cX5_valueOf : ByteArray := prog_7_method_2_code
def yX5_valueOf : MethodName := ⟨RX5, "valueOf", "(I)I"⟩
abbrev cX5_putValue : ByteArray := prog_7_method_3_code
def yX5_putValue : MethodName := ⟨RX5, "putValue", "(II)V"⟩
abbrev cX5_convertTo : ByteArray := prog_7_method_4_code
def yX5_convertTo : MethodName := ⟨RX5, "convertTo", "(I)Z"⟩
abbrev cX5_revert : ByteArray := prog_7_method_5_code
def yX5_revert : MethodName := ⟨RX5, "revert", "()V"⟩
def RX6 : String := "LiveUpgrader"
def TX6 : u_T := fun k => match k with
  | 0 => ("LiveUpgrader", "histories", "[LLiveUpgrader$ClassHistory;", true)
  | 1 => ("LiveUpgrader", "classCount", "I", false)
  | 2 => ("LiveUpgrader", "stacks", "[LLiveUpgrader$CallStack;", true)
  | 3 => ("LiveUpgrader", "objects", "[LLiveUpgrader$StoredObject;", true)
  | _ => ("LiveUpgrader", "createdCount", "I", false)
def tyX6 : Nat → FieldType := fun k => match k with
  | 0 => .array (.object "LiveUpgrader$ClassHistory")
  | 1 => .int
  | 2 => .array (.object "LiveUpgrader$CallStack")
  | 3 => .array (.object "LiveUpgrader$StoredObject")
  | _ => .int
abbrev wsX60 : List Cond := u_ws RX6 TX6 5
theorem nmX6 : ∀ a, a < 5 → ∀ b, b < 5 → a ≠ b → (TX6 a).2.1 ≠ (TX6 b).2.1 := by decide +kernel
theorem tyX6_ok : ∀ k, k < 5 → parseFieldDescriptor (TX6 k).2.2.1 = some (tyX6 k) := by decide +kernel
abbrev cX6_init : ByteArray := prog_1_method_1_code
def yX6_init : MethodName := ⟨RX6, "<init>", "()V"⟩
abbrev cX6_addClass : ByteArray := prog_1_method_2_code
def yX6_addClass : MethodName := ⟨RX6, "addClass", "(I)I"⟩
abbrev cX6_currentVersion : ByteArray := prog_1_method_3_code
def yX6_currentVersion : MethodName := ⟨RX6, "currentVersion", "(I)I"⟩
abbrev cX6_fields : ByteArray := prog_1_method_4_code
def yX6_fields : MethodName := ⟨RX6, "fields", "(II)I"⟩
abbrev cX6_stage : ByteArray := prog_1_method_5_code
def yX6_stage : MethodName := ⟨RX6, "stage", "(I)I"⟩
abbrev cX6_stagedFields : ByteArray := prog_1_method_6_code
def yX6_stagedFields : MethodName := ⟨RX6, "stagedFields", "(I)I"⟩
abbrev cX6_addField : ByteArray := prog_1_method_7_code
def yX6_addField : MethodName := ⟨RX6, "addField", "(III)I"⟩
abbrev cX6_dropField : ByteArray := prog_1_method_8_code
def yX6_dropField : MethodName := ⟨RX6, "dropField", "(II)I"⟩
abbrev cX6_renameField : ByteArray := prog_1_method_9_code
def yX6_renameField : MethodName := ⟨RX6, "renameField", "(III)I"⟩
abbrev cX6_scaleField : ByteArray := prog_1_method_10_code
def yX6_scaleField : MethodName := ⟨RX6, "scaleField", "(III)I"⟩
abbrev cX6_mergeField : ByteArray := prog_1_method_11_code
def yX6_mergeField : MethodName := ⟨RX6, "mergeField", "(III)I"⟩
abbrev cX6_activate : ByteArray := prog_1_method_12_code
def yX6_activate : MethodName := ⟨RX6, "activate", "(I)I"⟩
abbrev cX6_discard : ByteArray := prog_1_method_13_code
def yX6_discard : MethodName := ⟨RX6, "discard", "(I)I"⟩
abbrev cX6_rollback : ByteArray := prog_1_method_14_code
def yX6_rollback : MethodName := ⟨RX6, "rollback", "(I)I"⟩
abbrev cX6_call : ByteArray := prog_1_method_15_code
def yX6_call : MethodName := ⟨RX6, "call", "(II)I"⟩
abbrev cX6_finish : ByteArray := prog_1_method_16_code
def yX6_finish : MethodName := ⟨RX6, "finish", "(I)I"⟩
abbrev cX6_depth : ByteArray := prog_1_method_17_code
def yX6_depth : MethodName := ⟨RX6, "depth", "(I)I"⟩
abbrev cX6_frameClass : ByteArray := prog_1_method_18_code
def yX6_frameClass : MethodName := ⟨RX6, "frameClass", "(II)I"⟩
abbrev cX6_frameVersion : ByteArray := prog_1_method_19_code
def yX6_frameVersion : MethodName := ⟨RX6, "frameVersion", "(II)I"⟩
abbrev cX6_oldFrames : ByteArray := prog_1_method_20_code
def yX6_oldFrames : MethodName := ⟨RX6, "oldFrames", "(I)I"⟩
abbrev cX6_create : ByteArray := prog_1_method_21_code
def yX6_create : MethodName := ⟨RX6, "create", "(I)I"⟩
abbrev cX6_read : ByteArray := prog_1_method_22_code
def yX6_read : MethodName := ⟨RX6, "read", "(III)I"⟩
abbrev cX6_write : ByteArray := prog_1_method_23_code
def yX6_write : MethodName := ⟨RX6, "write", "(IIII)I"⟩
abbrev cX6_peek : ByteArray := prog_1_method_24_code
def yX6_peek : MethodName := ⟨RX6, "peek", "(II)I"⟩
abbrev cX6_objectVersion : ByteArray := prog_1_method_25_code
def yX6_objectVersion : MethodName := ⟨RX6, "objectVersion", "(I)I"⟩
abbrev cX6_conversions : ByteArray := prog_1_method_26_code
def yX6_conversions : MethodName := ⟨RX6, "conversions", "(I)I"⟩
abbrev cX6_pinnedBy : ByteArray := prog_1_method_27_code
def yX6_pinnedBy : MethodName := ⟨RX6, "pinnedBy", "(I)I"⟩
abbrev cX6_outdated : ByteArray := prog_1_method_28_code
def yX6_outdated : MethodName := ⟨RX6, "outdated", "(I)I"⟩
abbrev cX6_convertAll : ByteArray := prog_1_method_29_code
def yX6_convertAll : MethodName := ⟨RX6, "convertAll", "(I)I"⟩
abbrev cX6_isField : ByteArray := prog_1_method_30_code
def yX6_isField : MethodName := ⟨RX6, "isField", "(I)Z"⟩
abbrev cX6_isValue : ByteArray := prog_1_method_31_code
def yX6_isValue : MethodName := ⟨RX6, "isValue", "(J)Z"⟩
abbrev cX6_contains : ByteArray := prog_1_method_32_code
def yX6_contains : MethodName := ⟨RX6, "contains", "(II)Z"⟩
abbrev cX6_historyOf : ByteArray := prog_1_method_33_code
def yX6_historyOf : MethodName := ⟨RX6, "historyOf", "(I)LLiveUpgrader$ClassHistory;"⟩
abbrev cX6_stackOf : ByteArray := prog_1_method_34_code
def yX6_stackOf : MethodName := ⟨RX6, "stackOf", "(I)LLiveUpgrader$CallStack;"⟩
abbrev cX6_existingObject : ByteArray := prog_1_method_35_code
def yX6_existingObject : MethodName := ⟨RX6, "existingObject", "(I)LLiveUpgrader$StoredObject;"⟩
abbrev cX6_countFrames : ByteArray := prog_1_method_36_code
def yX6_countFrames : MethodName := ⟨RX6, "countFrames", "(III)I"⟩
abbrev cX6_smallestPin : ByteArray := prog_1_method_37_code
def yX6_smallestPin : MethodName := ⟨RX6, "smallestPin", "(I)I"⟩
abbrev cX6_access : ByteArray := prog_1_method_38_code
def yX6_access : MethodName := ⟨RX6, "access", "(III)I"⟩
abbrev cX6_outdatedObject : ByteArray := prog_1_method_39_code
def yX6_outdatedObject : MethodName := ⟨RX6, "outdatedObject", "(ILLiveUpgrader$ClassHistory;)LLiveUpgrader$StoredObject;"⟩
abbrev cX6_rollBackObjects : ByteArray := prog_1_method_40_code
def yX6_rollBackObjects : MethodName := ⟨RX6, "rollBackObjects", "(II)V"⟩
def RX7 : String := "LiveUpgraderModel"
def TX7 : u_T := fun k => match k with
  | 0 => ("LiveUpgraderModel", "classes", "I", false)
  | 1 => ("LiveUpgraderModel", "classAt", "[I", true)
  | 2 => ("LiveUpgraderModel", "depths", "[I", true)
  | 3 => ("LiveUpgraderModel", "frameClass", "[I", true)
  | 4 => ("LiveUpgraderModel", "frameVersion", "[I", true)
  | 5 => ("LiveUpgraderModel", "pins", "[I", true)
  | 6 => ("LiveUpgraderModel", "created", "I", false)
  | 7 => ("LiveUpgraderModel", "exists", "[Z", true)
  | 8 => ("LiveUpgraderModel", "classOf", "[I", true)
  | 9 => ("LiveUpgraderModel", "versionOf", "[I", true)
  | 10 => ("LiveUpgraderModel", "createdWith", "[I", true)
  | _ => ("LiveUpgraderModel", "values", "[I", true)
def tyX7 : Nat → FieldType := fun k => match k with
  | 0 => .int
  | 1 => .array .int
  | 2 => .array .int
  | 3 => .array .int
  | 4 => .array .int
  | 5 => .array .int
  | 6 => .int
  | 7 => .array .boolean
  | 8 => .array .int
  | 9 => .array .int
  | 10 => .array .int
  | _ => .array .int
abbrev wsX70 : List Cond := u_ws RX7 TX7 12
theorem nmX7 : ∀ a, a < 12 → ∀ b, b < 12 → a ≠ b → (TX7 a).2.1 ≠ (TX7 b).2.1 := by decide +kernel
theorem tyX7_ok : ∀ k, k < 12 → parseFieldDescriptor (TX7 k).2.2.1 = some (tyX7 k) := by decide +kernel
abbrev cX7_init : ByteArray := prog_9_method_1_code
def yX7_init : MethodName := ⟨RX7, "<init>", "()V"⟩
abbrev cX7_in : ByteArray := prog_9_method_2_code
def yX7_in : MethodName := ⟨RX7, "in", "(III)Z"⟩
abbrev cX7_isClass : ByteArray := prog_9_method_3_code
def yX7_isClass : MethodName := ⟨RX7, "isClass", "(I)Z"⟩
abbrev cX7_at : ByteArray := prog_9_method_4_code
def yX7_at : MethodName := ⟨RX7, "at", "(II)I"⟩
abbrev cX7_of : ByteArray := prog_9_method_5_code
def yX7_of : MethodName := ⟨RX7, "of", "(II)I"⟩
abbrev cX7_current : ByteArray := prog_9_method_6_code
def yX7_current : MethodName := ⟨RX7, "current", "(I)I"⟩
abbrev cX7_addClass : ByteArray := prog_9_method_7_code
def yX7_addClass : MethodName := ⟨RX7, "addClass", "(I)I"⟩
abbrev cX7_currentVersion : ByteArray := prog_9_method_8_code
def yX7_currentVersion : MethodName := ⟨RX7, "currentVersion", "(I)I"⟩
abbrev cX7_fields : ByteArray := prog_9_method_9_code
def yX7_fields : MethodName := ⟨RX7, "fields", "(II)I"⟩
abbrev cX7_stage : ByteArray := prog_9_method_10_code
def yX7_stage : MethodName := ⟨RX7, "stage", "(I)I"⟩
abbrev cX7_wrongStage : ByteArray := prog_9_method_11_code
def yX7_wrongStage : MethodName := ⟨RX7, "wrongStage", "(I)I"⟩
abbrev cX7_stagedNow : ByteArray := prog_9_method_12_code
def yX7_stagedNow : MethodName := ⟨RX7, "stagedNow", "(I)I"⟩
abbrev cX7_has : ByteArray := prog_9_method_13_code
def yX7_has : MethodName := ⟨RX7, "has", "(II)Z"⟩
abbrev cX7_stagedFields : ByteArray := prog_9_method_14_code
def yX7_stagedFields : MethodName := ⟨RX7, "stagedFields", "(I)I"⟩
abbrev cX7_append : ByteArray := prog_9_method_15_code
def yX7_append : MethodName := ⟨RX7, "append", "(IIIII)I"⟩
abbrev cX7_addField : ByteArray := prog_9_method_16_code
def yX7_addField : MethodName := ⟨RX7, "addField", "(III)I"⟩
abbrev cX7_dropField : ByteArray := prog_9_method_17_code
def yX7_dropField : MethodName := ⟨RX7, "dropField", "(II)I"⟩
abbrev cX7_renameField : ByteArray := prog_9_method_18_code
def yX7_renameField : MethodName := ⟨RX7, "renameField", "(III)I"⟩
abbrev cX7_scaleField : ByteArray := prog_9_method_19_code
def yX7_scaleField : MethodName := ⟨RX7, "scaleField", "(III)I"⟩
abbrev cX7_mergeField : ByteArray := prog_9_method_20_code
def yX7_mergeField : MethodName := ⟨RX7, "mergeField", "(III)I"⟩
abbrev cX7_activate : ByteArray := prog_9_method_21_code
def yX7_activate : MethodName := ⟨RX7, "activate", "(I)I"⟩
abbrev cX7_discard : ByteArray := prog_9_method_22_code
def yX7_discard : MethodName := ⟨RX7, "discard", "(I)I"⟩
abbrev cX7_isThere : ByteArray := prog_9_method_23_code
def yX7_isThere : MethodName := ⟨RX7, "isThere", "(I)Z"⟩
abbrev cX7_runs : ByteArray := prog_9_method_24_code
def yX7_runs : MethodName := ⟨RX7, "runs", "(II)Z"⟩
abbrev cX7_delete : ByteArray := prog_9_method_25_code
def yX7_delete : MethodName := ⟨RX7, "delete", "(I)V"⟩
abbrev cX7_rollback : ByteArray := prog_9_method_26_code
def yX7_rollback : MethodName := ⟨RX7, "rollback", "(I)I"⟩
abbrev cX7_isThread : ByteArray := prog_9_method_27_code
def yX7_isThread : MethodName := ⟨RX7, "isThread", "(I)Z"⟩
abbrev cX7_call : ByteArray := prog_9_method_28_code
def yX7_call : MethodName := ⟨RX7, "call", "(II)I"⟩
abbrev cX7_finish : ByteArray := prog_9_method_29_code
def yX7_finish : MethodName := ⟨RX7, "finish", "(I)I"⟩
abbrev cX7_depth : ByteArray := prog_9_method_30_code
def yX7_depth : MethodName := ⟨RX7, "depth", "(I)I"⟩
abbrev cX7_frameClass : ByteArray := prog_9_method_31_code
def yX7_frameClass : MethodName := ⟨RX7, "frameClass", "(II)I"⟩
abbrev cX7_frameVersion : ByteArray := prog_9_method_32_code
def yX7_frameVersion : MethodName := ⟨RX7, "frameVersion", "(II)I"⟩
abbrev cX7_oldFrames : ByteArray := prog_9_method_33_code
def yX7_oldFrames : MethodName := ⟨RX7, "oldFrames", "(I)I"⟩
abbrev cX7_cell : ByteArray := prog_9_method_34_code
def yX7_cell : MethodName := ⟨RX7, "cell", "(III)I"⟩
abbrev cX7_isObject : ByteArray := prog_9_method_35_code
def yX7_isObject : MethodName := ⟨RX7, "isObject", "(I)Z"⟩
abbrev cX7_create : ByteArray := prog_9_method_36_code
def yX7_create : MethodName := ⟨RX7, "create", "(I)I"⟩
abbrev cX7_convertOnce : ByteArray := prog_9_method_37_code
def yX7_convertOnce : MethodName := ⟨RX7, "convertOnce", "(II)Z"⟩
abbrev cX7_convert : ByteArray := prog_9_method_38_code
def yX7_convert : MethodName := ⟨RX7, "convert", "(II)Z"⟩
abbrev cX7_isHeldBelow : ByteArray := prog_9_method_39_code
def yX7_isHeldBelow : MethodName := ⟨RX7, "isHeldBelow", "(II)Z"⟩
abbrev cX7_access : ByteArray := prog_9_method_40_code
def yX7_access : MethodName := ⟨RX7, "access", "(III)I"⟩
abbrev cX7_read : ByteArray := prog_9_method_41_code
def yX7_read : MethodName := ⟨RX7, "read", "(III)I"⟩
abbrev cX7_write : ByteArray := prog_9_method_42_code
def yX7_write : MethodName := ⟨RX7, "write", "(IIII)I"⟩
abbrev cX7_peek : ByteArray := prog_9_method_43_code
def yX7_peek : MethodName := ⟨RX7, "peek", "(II)I"⟩
abbrev cX7_objectVersion : ByteArray := prog_9_method_44_code
def yX7_objectVersion : MethodName := ⟨RX7, "objectVersion", "(I)I"⟩
abbrev cX7_conversions : ByteArray := prog_9_method_45_code
def yX7_conversions : MethodName := ⟨RX7, "conversions", "(I)I"⟩
abbrev cX7_pinnedBy : ByteArray := prog_9_method_46_code
def yX7_pinnedBy : MethodName := ⟨RX7, "pinnedBy", "(I)I"⟩
abbrev cX7_outdated : ByteArray := prog_9_method_47_code
def yX7_outdated : MethodName := ⟨RX7, "outdated", "(I)I"⟩
abbrev cX7_convertAll : ByteArray := prog_9_method_48_code
def yX7_convertAll : MethodName := ⟨RX7, "convertAll", "(I)I"⟩
def RJ9 : String := "java/lang/Math"
def TJ9 : u_T := fun k => match k with
  | _ => ("", "", "", false)
def tyJ9 : Nat → FieldType := fun k => match k with
  | _ => .int
abbrev wsJ90 : List Cond := u_ws RJ9 TJ9 0
theorem nmJ9 : ∀ a, a < 0 → ∀ b, b < 0 → a ≠ b → (TJ9 a).2.1 ≠ (TJ9 b).2.1 := by decide +kernel
theorem tyJ9_ok : ∀ k, k < 0 → parseFieldDescriptor (TJ9 k).2.2.1 = some (tyJ9 k) := by decide +kernel
abbrev cJ9_min_7cf53 : ByteArray := prog_10_method_69_code
def yJ9_min_7cf53 : MethodName := ⟨RJ9, "min", "(II)I"⟩
def RJ10 : String := "java/lang/System"
def TJ10 : u_T := fun k => match k with
  | _ => ("", "", "", false)
def tyJ10 : Nat → FieldType := fun k => match k with
  | _ => .int
abbrev wsJ100 : List Cond := u_ws RJ10 TJ10 0
theorem nmJ10 : ∀ a, a < 0 → ∀ b, b < 0 → a ≠ b → (TJ10 a).2.1 ≠ (TJ10 b).2.1 := by decide +kernel
theorem tyJ10_ok : ∀ k, k < 0 → parseFieldDescriptor (TJ10 k).2.2.1 = some (tyJ10 k) := by decide +kernel
def RL : String := "LiveUpgraderLaw"
abbrev cL_law : ByteArray := code
def yL_law : MethodName := ⟨RL, "law", "([I)Z"⟩
def wsX0_init : List Cond := .code yX0_init cX0_init 1 none :: ([.methodLink RX0 3 objectInit, .instanceMethod objectInit, .code objectInit ⟨#[0xb1]⟩ 1 none, .classLink RX0 9 RX3, .fieldLink RX0 11 "LiveUpgrader$CallStack" "frames" "[LLiveUpgrader$Frame;"] ++ wsX00)
def wsX3_init : List Cond := .code yX3_init cX3_init 2 none :: ([.methodLink RX3 1 objectInit, .instanceMethod objectInit, .code objectInit ⟨#[0xb1]⟩ 1 none, .fieldLink RX3 7 "LiveUpgrader$Frame" "history" "LLiveUpgrader$ClassHistory;", .fieldLink RX3 19 "LiveUpgrader$Frame" "version" "I"] ++ wsX30 ++ wsX10)
def wsX0_push : List Cond := .code yX0_push cX0_push 2 (some .int) :: ([.fieldLink RX0 17 "LiveUpgrader$CallStack" "size" "I", .constant RX0 21 (-2000010), .fieldLink RX0 11 "LiveUpgrader$CallStack" "frames" "[LLiveUpgrader$Frame;", .classLink RX0 9 RX3, .instantiable RX3 3, .initialized RX3, .methodLink RX0 22 yX3_init, .instanceMethod yX3_init, .code yX3_init cX3_init 2 none, .methodLink RX3 1 objectInit, .instanceMethod objectInit, .code objectInit ⟨#[0xb1]⟩ 1 none, .fieldLink RX3 7 "LiveUpgrader$Frame" "history" "LLiveUpgrader$ClassHistory;", .fieldLink RX3 19 "LiveUpgrader$Frame" "version" "I"] ++ wsX00 ++ wsX30 ++ wsX10)
def wsX0_pop : List Cond := .code yX0_pop cX0_pop 1 (some .int) :: ([.fieldLink RX0 17 "LiveUpgrader$CallStack" "size" "I", .constant RX0 25 (-2000006), .fieldLink RX0 11 "LiveUpgrader$CallStack" "frames" "[LLiveUpgrader$Frame;"] ++ wsX00)
def wsX0_frameAt : List Cond := .code yX0_frameAt cX0_frameAt 2 (some (.object "LiveUpgrader$Frame")) :: ([.fieldLink RX0 17 "LiveUpgrader$CallStack" "size" "I", .fieldLink RX0 11 "LiveUpgrader$CallStack" "frames" "[LLiveUpgrader$Frame;"] ++ wsX00)
def wsX0_top : List Cond := .code yX0_top cX0_top 1 (some (.object "LiveUpgrader$Frame")) :: ([.fieldLink RX0 17 "LiveUpgrader$CallStack" "size" "I", .methodLink RX0 26 yX0_frameAt, .instanceMethod yX0_frameAt, .selects RX0 yX0_frameAt yX0_frameAt, .initialized RX0, .code yX0_frameAt cX0_frameAt 2 (some (.object "LiveUpgrader$Frame")), .fieldLink RX0 11 "LiveUpgrader$CallStack" "frames" "[LLiveUpgrader$Frame;"] ++ wsX00)
def wsX0_countFrames : List Cond := .code yX0_countFrames cX0_countFrames 7 (some .int) :: ([.fieldLink RX0 17 "LiveUpgrader$CallStack" "size" "I", .fieldLink RX0 11 "LiveUpgrader$CallStack" "frames" "[LLiveUpgrader$Frame;"] ++ wsX00 ++ wsX30 ++ wsX10)
def wsX3_pins : List Cond := .code yX3_pins cX3_pins 2 (some .boolean) :: ([.fieldLink RX3 22 "LiveUpgrader$Frame" "pins" "I"] ++ wsX30)
def wsX0_smallestPin : List Cond := .code yX0_smallestPin cX0_smallestPin 4 (some .int) :: ([.fieldLink RX0 17 "LiveUpgrader$CallStack" "size" "I", .fieldLink RX0 11 "LiveUpgrader$CallStack" "frames" "[LLiveUpgrader$Frame;", .methodLink RX0 46 Lib.Math.min.name, .static Lib.Math.min.name, .initialized "java/lang/Math", .code Lib.Math.min.name Lib.Math.min.code 2 (some .int), .methodLink RX0 42 yX3_pins, .instanceMethod yX3_pins, .selects RX3 yX3_pins yX3_pins, .initialized RX3, .code yX3_pins cX3_pins 2 (some .boolean), .fieldLink RX3 22 "LiveUpgrader$Frame" "pins" "I"] ++ wsX00 ++ wsX30)
def wsX2_init : List Cond := .code yX2_init cX2_init 1 none :: ([.methodLink RX2 3 objectInit, .instanceMethod objectInit, .code objectInit ⟨#[0xb1]⟩ 1 none, .classLink RX2 9 RX4, .fieldLink RX2 11 "LiveUpgrader$Converter" "steps" "[LLiveUpgrader$Step;"] ++ wsX20)
def wsX1_init : List Cond := .code yX1_init cX1_init 4 none :: ([.methodLink RX1 3 objectInit, .instanceMethod objectInit, .code objectInit ⟨#[0xb1]⟩ 1 none, .arrayClass .int, .fieldLink RX1 9 "LiveUpgrader$ClassHistory" "fieldSets" "[I", .classLink RX1 15 RX2, .fieldLink RX1 17 "LiveUpgrader$ClassHistory" "converters" "[LLiveUpgrader$Converter;", .fieldLink RX1 21 "LiveUpgrader$ClassHistory" "type" "I", .instantiable RX2 2, .initialized RX2, .instanceMethod yX2_init, .code yX2_init cX2_init 1 none, .methodLink RX2 3 objectInit, .classLink RX2 9 RX4, .fieldLink RX2 11 "LiveUpgrader$Converter" "steps" "[LLiveUpgrader$Step;"] ++ wsX10 ++ wsX20)
def wsX1_fieldSet : List Cond := .code yX1_fieldSet cX1_fieldSet 2 (some .int) :: ([.fieldLink RX1 9 "LiveUpgrader$ClassHistory" "fieldSets" "[I"] ++ wsX10)
def wsX1_stagedSet : List Cond := .code yX1_stagedSet cX1_stagedSet 1 (some .int) :: ([.fieldLink RX1 26 "LiveUpgrader$ClassHistory" "current" "I", .methodLink RX1 29 yX1_fieldSet, .instanceMethod yX1_fieldSet, .selects RX1 yX1_fieldSet yX1_fieldSet, .initialized RX1, .code yX1_fieldSet cX1_fieldSet 2 (some .int), .fieldLink RX1 9 "LiveUpgrader$ClassHistory" "fieldSets" "[I"] ++ wsX10)
def wsX1_isFull : List Cond := .code yX1_isFull cX1_isFull 1 (some .boolean) :: ([.fieldLink RX1 26 "LiveUpgrader$ClassHistory" "current" "I"] ++ wsX10)
def wsX2_clear : List Cond := .code yX2_clear cX2_clear 1 none :: ([.fieldLink RX2 17 "LiveUpgrader$Converter" "length" "I"] ++ wsX20)
def wsX1_beginStaged : List Cond := .code yX1_beginStaged cX1_beginStaged 1 (some .int) :: ([.constant RX1 37 (-2000010), .fieldLink RX1 9 "LiveUpgrader$ClassHistory" "fieldSets" "[I", .fieldLink RX1 26 "LiveUpgrader$ClassHistory" "current" "I", .fieldLink RX1 17 "LiveUpgrader$ClassHistory" "converters" "[LLiveUpgrader$Converter;", .fieldLink RX1 41 "LiveUpgrader$ClassHistory" "staged" "Z", .methodLink RX1 33 yX1_isFull, .instanceMethod yX1_isFull, .selects RX1 yX1_isFull yX1_isFull, .initialized RX1, .code yX1_isFull cX1_isFull 1 (some .boolean), .methodLink RX1 38 yX2_clear, .instanceMethod yX2_clear, .selects RX2 yX2_clear yX2_clear, .initialized RX2, .code yX2_clear cX2_clear 1 none, .fieldLink RX2 17 "LiveUpgrader$Converter" "length" "I"] ++ wsX10 ++ wsX20)
def wsX2_isFull : List Cond := .code yX2_isFull cX2_isFull 1 (some .boolean) :: ([.fieldLink RX2 17 "LiveUpgrader$Converter" "length" "I"] ++ wsX20)
def wsX4_init : List Cond := .code yX4_init cX4_init 4 none :: ([.methodLink RX4 1 objectInit, .instanceMethod objectInit, .code objectInit ⟨#[0xb1]⟩ 1 none, .fieldLink RX4 7 "LiveUpgrader$Step" "kind" "I", .fieldLink RX4 13 "LiveUpgrader$Step" "field" "I", .fieldLink RX4 16 "LiveUpgrader$Step" "operand" "I"] ++ wsX40)
def wsX4_changedSet : List Cond := .code yX4_changedSet cX4_changedSet 2 (some .int) :: ([.fieldLink RX4 7 "LiveUpgrader$Step" "kind" "I", .fieldLink RX4 13 "LiveUpgrader$Step" "field" "I", .fieldLink RX4 16 "LiveUpgrader$Step" "operand" "I"] ++ wsX40)
def wsX2_append : List Cond := .code yX2_append cX2_append 2 (some .int) :: ([.constant RX2 25 (-2000010), .fieldLink RX2 11 "LiveUpgrader$Converter" "steps" "[LLiveUpgrader$Step;", .fieldLink RX2 17 "LiveUpgrader$Converter" "length" "I", .methodLink RX2 21 yX2_isFull, .instanceMethod yX2_isFull, .selects RX2 yX2_isFull yX2_isFull, .initialized RX2, .code yX2_isFull cX2_isFull 1 (some .boolean)] ++ wsX20)
def wsX1_append_r1 : List Cond := [Cond.fieldLink RX1 17 "LiveUpgrader$ClassHistory" "converters" "[LLiveUpgrader$Converter;", Cond.fieldLink RX1 26 "LiveUpgrader$ClassHistory" "current" "I", Cond.constant RX1 37 (-2000010), Cond.classLink RX1 46 RX4, Cond.instantiable RX4 3, Cond.initialized RX4, Cond.fieldLink RX1 9 "LiveUpgrader$ClassHistory" "fieldSets" "[I", Cond.methodLink RX1 33 yX1_isFull, Cond.instanceMethod yX1_isFull, Cond.selects RX1 yX1_isFull yX1_isFull, Cond.initialized RX1, Cond.code yX1_isFull cX1_isFull 1 (some .boolean), Cond.methodLink RX1 45 yX2_isFull, Cond.instanceMethod yX2_isFull, Cond.selects RX2 yX2_isFull yX2_isFull, Cond.initialized RX2, Cond.code yX2_isFull cX2_isFull 1 (some .boolean), Cond.fieldLink RX2 17 "LiveUpgrader$Converter" "length" "I", Cond.methodLink RX1 48 yX4_init, Cond.instanceMethod yX4_init, Cond.code yX4_init cX4_init 4 none, Cond.methodLink RX4 1 objectInit, Cond.instanceMethod objectInit, Cond.code objectInit ⟨#[0xb1]⟩ 1 none]
def wsX1_append_r2 : List Cond := [Cond.fieldLink RX4 7 "LiveUpgrader$Step" "kind" "I", Cond.fieldLink RX4 13 "LiveUpgrader$Step" "field" "I", Cond.fieldLink RX4 16 "LiveUpgrader$Step" "operand" "I", Cond.methodLink RX1 51 yX4_changedSet, Cond.instanceMethod yX4_changedSet, Cond.selects RX4 yX4_changedSet yX4_changedSet, Cond.code yX4_changedSet cX4_changedSet 2 (some .int), Cond.methodLink RX1 54 yX2_append, Cond.instanceMethod yX2_append, Cond.selects RX2 yX2_append yX2_append, Cond.code yX2_append cX2_append 2 (some .int), Cond.constant RX2 25 (-2000010), Cond.fieldLink RX2 11 "LiveUpgrader$Converter" "steps" "[LLiveUpgrader$Step;", Cond.methodLink RX2 21 yX2_isFull]
def wsX1_append : List Cond := .code yX1_append cX1_append 5 (some .int) :: ((wsX1_append_r1 ++ wsX1_append_r2) ++ wsX10 ++ wsX40 ++ wsX20)
def wsX1_activateStaged : List Cond := .code yX1_activateStaged cX1_activateStaged 1 (some .int) :: ([.fieldLink RX1 26 "LiveUpgrader$ClassHistory" "current" "I", .fieldLink RX1 41 "LiveUpgrader$ClassHistory" "staged" "Z", .methodLink RX1 33 yX1_isFull, .instanceMethod yX1_isFull, .selects RX1 yX1_isFull yX1_isFull, .initialized RX1, .code yX1_isFull cX1_isFull 1 (some .boolean)] ++ wsX10)
def wsX1_discardStaged : List Cond := .code yX1_discardStaged cX1_discardStaged 1 (some .int) :: ([.fieldLink RX1 41 "LiveUpgrader$ClassHistory" "staged" "Z", .fieldLink RX1 17 "LiveUpgrader$ClassHistory" "converters" "[LLiveUpgrader$Converter;", .fieldLink RX1 26 "LiveUpgrader$ClassHistory" "current" "I", .methodLink RX1 33 yX1_isFull, .instanceMethod yX1_isFull, .selects RX1 yX1_isFull yX1_isFull, .initialized RX1, .code yX1_isFull cX1_isFull 1 (some .boolean)] ++ wsX10 ++ wsX20)
def wsX1_removeCurrent : List Cond := .code yX1_removeCurrent cX1_removeCurrent 1 (some .int) :: ([.fieldLink RX1 26 "LiveUpgrader$ClassHistory" "current" "I", .fieldLink RX1 41 "LiveUpgrader$ClassHistory" "staged" "Z"] ++ wsX10)
def wsX6_isField : List Cond := .code yX6_isField cX6_isField 1 (some .boolean) :: ([])
def wsX6_isValue : List Cond := .code yX6_isValue cX6_isValue 2 (some .boolean) :: ([.constantLong RX6 176 (-1000000), .constantLong RX6 178 (1000000)])
def wsX4_put : List Cond := .code yX4_put cX4_put 4 (some .boolean) :: ([.static yX6_isField, .initialized RX6, .code yX6_isField cX6_isField 1 (some .boolean), .static yX6_isValue, .code yX6_isValue cX6_isValue 2 (some .boolean), .constantLong RX6 176 (-1000000), .constantLong RX6 178 (1000000)])
def wsX4_applyTo : List Cond := .code yX4_applyTo cX4_applyTo 2 (some .boolean) :: ([.fieldLink RX4 7 "LiveUpgrader$Step" "kind" "I", .fieldLink RX4 13 "LiveUpgrader$Step" "field" "I", .fieldLink RX4 16 "LiveUpgrader$Step" "operand" "I", .methodLink RX4 19 yX4_put, .static yX4_put, .initialized RX4, .code yX4_put cX4_put 4 (some .boolean), .static yX6_isField, .initialized RX6, .code yX6_isField cX6_isField 1 (some .boolean), .static yX6_isValue, .code yX6_isValue cX6_isValue 2 (some .boolean), .constantLong RX6 176 (-1000000), .constantLong RX6 178 (1000000)] ++ wsX40)
def wsX2_applyTo : List Cond := .code yX2_applyTo cX2_applyTo 3 (some .boolean) :: ([.fieldLink RX2 17 "LiveUpgrader$Converter" "length" "I", .fieldLink RX2 11 "LiveUpgrader$Converter" "steps" "[LLiveUpgrader$Step;", .methodLink RX2 26 yX4_applyTo, .instanceMethod yX4_applyTo, .selects RX4 yX4_applyTo yX4_applyTo, .initialized RX4, .code yX4_applyTo cX4_applyTo 2 (some .boolean), .fieldLink RX4 7 "LiveUpgrader$Step" "kind" "I", .fieldLink RX4 13 "LiveUpgrader$Step" "field" "I", .fieldLink RX4 16 "LiveUpgrader$Step" "operand" "I", .methodLink RX4 19 yX4_put, .static yX4_put, .code yX4_put cX4_put 4 (some .boolean), .static yX6_isField, .initialized RX6, .code yX6_isField cX6_isField 1 (some .boolean), .static yX6_isValue, .code yX6_isValue cX6_isValue 2 (some .boolean), .constantLong RX6 176 (-1000000), .constantLong RX6 178 (1000000)] ++ wsX20 ++ wsX40)
def wsX3_pin : List Cond := .code yX3_pin cX3_pin 2 none :: ([.fieldLink RX3 22 "LiveUpgrader$Frame" "pins" "I"] ++ wsX30)
def wsX5_init : List Cond := .code yX5_init cX5_init 3 none :: ([.methodLink RX5 3 objectInit, .instanceMethod objectInit, .code objectInit ⟨#[0xb1]⟩ 1 none, .classLink RX5 9 "[[I", .arrayClass .int, .fieldLink RX5 11 "LiveUpgrader$StoredObject" "rows" "[[I", .fieldLink RX5 16 "LiveUpgrader$StoredObject" "history" "LLiveUpgrader$ClassHistory;", .fieldLink RX5 20 "LiveUpgrader$StoredObject" "firstVersion" "I", .fieldLink RX5 24 "LiveUpgrader$StoredObject" "version" "I"] ++ wsX50)
def wsX5_valueOf : List Cond := .code yX5_valueOf cX5_valueOf 2 (some .int) :: ([.fieldLink RX5 11 "LiveUpgrader$StoredObject" "rows" "[[I", .fieldLink RX5 24 "LiveUpgrader$StoredObject" "version" "I"] ++ wsX50)
def wsX5_putValue : List Cond := .code yX5_putValue cX5_putValue 3 none :: ([.fieldLink RX5 11 "LiveUpgrader$StoredObject" "rows" "[[I", .fieldLink RX5 24 "LiveUpgrader$StoredObject" "version" "I"] ++ wsX50)
def wsX5_convertTo_r1 : List Cond := [Cond.fieldLink RX5 24 "LiveUpgrader$StoredObject" "version" "I", Cond.fieldLink RX5 11 "LiveUpgrader$StoredObject" "rows" "[[I", Cond.methodLink RX5 27 arraycopyName, Cond.native arraycopyName, Cond.static arraycopyName, Cond.initialized "java/lang/System", Cond.fieldLink RX5 16 "LiveUpgrader$StoredObject" "history" "LLiveUpgrader$ClassHistory;", Cond.methodLink RX5 39 yX2_applyTo, Cond.instanceMethod yX2_applyTo, Cond.selects RX2 yX2_applyTo yX2_applyTo, Cond.initialized RX2, Cond.code yX2_applyTo cX2_applyTo 3 (some .boolean), Cond.fieldLink RX2 17 "LiveUpgrader$Converter" "length" "I", Cond.fieldLink RX2 11 "LiveUpgrader$Converter" "steps" "[LLiveUpgrader$Step;", Cond.methodLink RX2 26 yX4_applyTo, Cond.instanceMethod yX4_applyTo, Cond.selects RX4 yX4_applyTo yX4_applyTo, Cond.initialized RX4, Cond.code yX4_applyTo cX4_applyTo 2 (some .boolean), Cond.fieldLink RX4 7 "LiveUpgrader$Step" "kind" "I", Cond.fieldLink RX4 13 "LiveUpgrader$Step" "field" "I", Cond.fieldLink RX4 16 "LiveUpgrader$Step" "operand" "I", Cond.methodLink RX4 19 yX4_put, Cond.static yX4_put]
def wsX5_convertTo_r2 : List Cond := [Cond.code yX4_put cX4_put 4 (some .boolean), Cond.static yX6_isField, Cond.initialized RX6, Cond.code yX6_isField cX6_isField 1 (some .boolean), Cond.static yX6_isValue, Cond.code yX6_isValue cX6_isValue 2 (some .boolean), Cond.constantLong RX6 176 (-1000000), Cond.constantLong RX6 178 (1000000)]
def wsX5_convertTo : List Cond := .code yX5_convertTo cX5_convertTo 3 (some .boolean) :: ((wsX5_convertTo_r1 ++ wsX5_convertTo_r2) ++ wsX50 ++ wsX10 ++ wsX20 ++ wsX40)
def wsX5_revert : List Cond := .code yX5_revert cX5_revert 1 none :: ([.fieldLink RX5 24 "LiveUpgrader$StoredObject" "version" "I", .fieldLink RX5 20 "LiveUpgrader$StoredObject" "firstVersion" "I"] ++ wsX50)
def wsX6_init : List Cond := .code yX6_init cX6_init 2 none :: ([.methodLink RX6 1 objectInit, .instanceMethod objectInit, .code objectInit ⟨#[0xb1]⟩ 1 none, .classLink RX6 9 RX1, .fieldLink RX6 11 "LiveUpgrader" "histories" "[LLiveUpgrader$ClassHistory;", .classLink RX6 15 RX0, .fieldLink RX6 17 "LiveUpgrader" "stacks" "[LLiveUpgrader$CallStack;", .instantiable RX0 2, .initialized RX0, .classLink RX6 22 RX5, .fieldLink RX6 24 "LiveUpgrader" "objects" "[LLiveUpgrader$StoredObject;", .instanceMethod yX0_init, .code yX0_init cX0_init 1 none, .methodLink RX0 3 objectInit, .classLink RX0 9 RX3, .fieldLink RX0 11 "LiveUpgrader$CallStack" "frames" "[LLiveUpgrader$Frame;"] ++ wsX60 ++ wsX00)
def wsX6_addClass_r1 : List Cond := [Cond.constant RX6 28 (-2000007), Cond.fieldLink RX6 29 "LiveUpgrader" "classCount" "I", Cond.constant RX6 33 (-2000010), Cond.fieldLink RX6 11 "LiveUpgrader" "histories" "[LLiveUpgrader$ClassHistory;", Cond.classLink RX6 9 RX1, Cond.instantiable RX1 5, Cond.initialized RX1, Cond.methodLink RX6 34 yX1_init, Cond.instanceMethod yX1_init, Cond.code yX1_init cX1_init 4 none, Cond.methodLink RX1 3 objectInit, Cond.instanceMethod objectInit, Cond.code objectInit ⟨#[0xb1]⟩ 1 none, Cond.arrayClass .int, Cond.fieldLink RX1 9 "LiveUpgrader$ClassHistory" "fieldSets" "[I", Cond.classLink RX1 15 RX2, Cond.fieldLink RX1 17 "LiveUpgrader$ClassHistory" "converters" "[LLiveUpgrader$Converter;", Cond.fieldLink RX1 21 "LiveUpgrader$ClassHistory" "type" "I", Cond.instantiable RX2 2, Cond.initialized RX2, Cond.instanceMethod yX2_init, Cond.code yX2_init cX2_init 1 none, Cond.methodLink RX2 3 objectInit, Cond.classLink RX2 9 RX4]
def wsX6_addClass_r2 : List Cond := [Cond.fieldLink RX2 11 "LiveUpgrader$Converter" "steps" "[LLiveUpgrader$Step;"]
def wsX6_addClass : List Cond := .code yX6_addClass cX6_addClass 3 (some .int) :: ((wsX6_addClass_r1 ++ wsX6_addClass_r2) ++ wsX60 ++ wsX10 ++ wsX20)
def wsX6_historyOf : List Cond := .code yX6_historyOf cX6_historyOf 2 (some (.object "LiveUpgrader$ClassHistory")) :: ([.fieldLink RX6 29 "LiveUpgrader" "classCount" "I", .fieldLink RX6 11 "LiveUpgrader" "histories" "[LLiveUpgrader$ClassHistory;"] ++ wsX60)
def wsX6_currentVersion : List Cond := .code yX6_currentVersion cX6_currentVersion 3 (some .int) :: ([.constant RX6 41 (-2000001), .methodLink RX6 37 yX6_historyOf, .instanceMethod yX6_historyOf, .selects RX6 yX6_historyOf yX6_historyOf, .initialized RX6, .code yX6_historyOf cX6_historyOf 2 (some (.object "LiveUpgrader$ClassHistory")), .fieldLink RX6 29 "LiveUpgrader" "classCount" "I", .fieldLink RX6 11 "LiveUpgrader" "histories" "[LLiveUpgrader$ClassHistory;"] ++ wsX10 ++ wsX60)
def wsX6_fields : List Cond := .code yX6_fields cX6_fields 4 (some .int) :: ([.constant RX6 41 (-2000001), .constant RX6 45 (-2000002), .methodLink RX6 37 yX6_historyOf, .instanceMethod yX6_historyOf, .selects RX6 yX6_historyOf yX6_historyOf, .initialized RX6, .code yX6_historyOf cX6_historyOf 2 (some (.object "LiveUpgrader$ClassHistory")), .fieldLink RX6 29 "LiveUpgrader" "classCount" "I", .fieldLink RX6 11 "LiveUpgrader" "histories" "[LLiveUpgrader$ClassHistory;", .methodLink RX6 46 yX1_fieldSet, .instanceMethod yX1_fieldSet, .selects RX1 yX1_fieldSet yX1_fieldSet, .initialized RX1, .code yX1_fieldSet cX1_fieldSet 2 (some .int), .fieldLink RX1 9 "LiveUpgrader$ClassHistory" "fieldSets" "[I"] ++ wsX10 ++ wsX60)
def wsX6_stage_r1 : List Cond := [Cond.constant RX6 41 (-2000001), Cond.constant RX6 54 (-2000009), Cond.methodLink RX6 37 yX6_historyOf, Cond.instanceMethod yX6_historyOf, Cond.selects RX6 yX6_historyOf yX6_historyOf, Cond.initialized RX6, Cond.code yX6_historyOf cX6_historyOf 2 (some (.object "LiveUpgrader$ClassHistory")), Cond.fieldLink RX6 29 "LiveUpgrader" "classCount" "I", Cond.fieldLink RX6 11 "LiveUpgrader" "histories" "[LLiveUpgrader$ClassHistory;", Cond.methodLink RX6 55 yX1_beginStaged, Cond.instanceMethod yX1_beginStaged, Cond.selects RX1 yX1_beginStaged yX1_beginStaged, Cond.initialized RX1, Cond.code yX1_beginStaged cX1_beginStaged 1 (some .int), Cond.constant RX1 37 (-2000010), Cond.fieldLink RX1 9 "LiveUpgrader$ClassHistory" "fieldSets" "[I", Cond.fieldLink RX1 26 "LiveUpgrader$ClassHistory" "current" "I", Cond.fieldLink RX1 17 "LiveUpgrader$ClassHistory" "converters" "[LLiveUpgrader$Converter;", Cond.fieldLink RX1 41 "LiveUpgrader$ClassHistory" "staged" "Z", Cond.methodLink RX1 33 yX1_isFull, Cond.instanceMethod yX1_isFull, Cond.selects RX1 yX1_isFull yX1_isFull, Cond.code yX1_isFull cX1_isFull 1 (some .boolean), Cond.methodLink RX1 38 yX2_clear]
def wsX6_stage_r2 : List Cond := [Cond.instanceMethod yX2_clear, Cond.selects RX2 yX2_clear yX2_clear, Cond.initialized RX2, Cond.code yX2_clear cX2_clear 1 none, Cond.fieldLink RX2 17 "LiveUpgrader$Converter" "length" "I"]
def wsX6_stage : List Cond := .code yX6_stage cX6_stage 3 (some .int) :: ((wsX6_stage_r1 ++ wsX6_stage_r2) ++ wsX10 ++ wsX60 ++ wsX20)
def wsX6_stagedFields : List Cond := .code yX6_stagedFields cX6_stagedFields 3 (some .int) :: ([.constant RX6 41 (-2000001), .constant RX6 59 (-2000008), .methodLink RX6 37 yX6_historyOf, .instanceMethod yX6_historyOf, .selects RX6 yX6_historyOf yX6_historyOf, .initialized RX6, .code yX6_historyOf cX6_historyOf 2 (some (.object "LiveUpgrader$ClassHistory")), .fieldLink RX6 29 "LiveUpgrader" "classCount" "I", .fieldLink RX6 11 "LiveUpgrader" "histories" "[LLiveUpgrader$ClassHistory;", .methodLink RX6 60 yX1_stagedSet, .instanceMethod yX1_stagedSet, .selects RX1 yX1_stagedSet yX1_stagedSet, .initialized RX1, .code yX1_stagedSet cX1_stagedSet 1 (some .int), .fieldLink RX1 26 "LiveUpgrader$ClassHistory" "current" "I", .methodLink RX1 29 yX1_fieldSet, .instanceMethod yX1_fieldSet, .selects RX1 yX1_fieldSet yX1_fieldSet, .code yX1_fieldSet cX1_fieldSet 2 (some .int), .fieldLink RX1 9 "LiveUpgrader$ClassHistory" "fieldSets" "[I"] ++ wsX10 ++ wsX60)
def wsX6_contains : List Cond := .code yX6_contains cX6_contains 2 (some .boolean) :: ([.methodLink RX6 63 yX6_isField, .static yX6_isField, .initialized RX6, .code yX6_isField cX6_isField 1 (some .boolean)])
def wsX6_addField_r1 : List Cond := [Cond.constant RX6 41 (-2000001), Cond.constant RX6 59 (-2000008), Cond.constant RX6 28 (-2000007), Cond.constant RX6 54 (-2000009), Cond.methodLink RX6 37 yX6_historyOf, Cond.instanceMethod yX6_historyOf, Cond.selects RX6 yX6_historyOf yX6_historyOf, Cond.initialized RX6, Cond.code yX6_historyOf cX6_historyOf 2 (some (.object "LiveUpgrader$ClassHistory")), Cond.fieldLink RX6 29 "LiveUpgrader" "classCount" "I", Cond.fieldLink RX6 11 "LiveUpgrader" "histories" "[LLiveUpgrader$ClassHistory;", Cond.methodLink RX6 63 yX6_isField, Cond.static yX6_isField, Cond.code yX6_isField cX6_isField 1 (some .boolean), Cond.methodLink RX6 67 yX6_isValue, Cond.static yX6_isValue, Cond.code yX6_isValue cX6_isValue 2 (some .boolean), Cond.constantLong RX6 176 (-1000000), Cond.constantLong RX6 178 (1000000), Cond.methodLink RX6 60 yX1_stagedSet, Cond.instanceMethod yX1_stagedSet, Cond.selects RX1 yX1_stagedSet yX1_stagedSet, Cond.initialized RX1, Cond.code yX1_stagedSet cX1_stagedSet 1 (some .int)]
def wsX6_addField_r2 : List Cond := [Cond.fieldLink RX1 26 "LiveUpgrader$ClassHistory" "current" "I", Cond.methodLink RX1 29 yX1_fieldSet, Cond.instanceMethod yX1_fieldSet, Cond.selects RX1 yX1_fieldSet yX1_fieldSet, Cond.code yX1_fieldSet cX1_fieldSet 2 (some .int), Cond.fieldLink RX1 9 "LiveUpgrader$ClassHistory" "fieldSets" "[I", Cond.methodLink RX6 71 yX6_contains, Cond.static yX6_contains, Cond.code yX6_contains cX6_contains 2 (some .boolean), Cond.methodLink RX6 77 yX1_append, Cond.instanceMethod yX1_append, Cond.selects RX1 yX1_append yX1_append, Cond.code yX1_append cX1_append 5 (some .int), Cond.fieldLink RX1 17 "LiveUpgrader$ClassHistory" "converters" "[LLiveUpgrader$Converter;", Cond.constant RX1 37 (-2000010), Cond.classLink RX1 46 RX4, Cond.instantiable RX4 3, Cond.initialized RX4, Cond.methodLink RX1 33 yX1_isFull, Cond.instanceMethod yX1_isFull, Cond.selects RX1 yX1_isFull yX1_isFull, Cond.code yX1_isFull cX1_isFull 1 (some .boolean), Cond.methodLink RX1 45 yX2_isFull, Cond.instanceMethod yX2_isFull]
def wsX6_addField_r3 : List Cond := [Cond.selects RX2 yX2_isFull yX2_isFull, Cond.initialized RX2, Cond.code yX2_isFull cX2_isFull 1 (some .boolean), Cond.fieldLink RX2 17 "LiveUpgrader$Converter" "length" "I", Cond.methodLink RX1 48 yX4_init, Cond.instanceMethod yX4_init, Cond.code yX4_init cX4_init 4 none, Cond.methodLink RX4 1 objectInit, Cond.instanceMethod objectInit, Cond.code objectInit ⟨#[0xb1]⟩ 1 none, Cond.fieldLink RX4 7 "LiveUpgrader$Step" "kind" "I", Cond.fieldLink RX4 13 "LiveUpgrader$Step" "field" "I", Cond.fieldLink RX4 16 "LiveUpgrader$Step" "operand" "I", Cond.methodLink RX1 51 yX4_changedSet, Cond.instanceMethod yX4_changedSet, Cond.selects RX4 yX4_changedSet yX4_changedSet, Cond.code yX4_changedSet cX4_changedSet 2 (some .int), Cond.methodLink RX1 54 yX2_append, Cond.instanceMethod yX2_append, Cond.selects RX2 yX2_append yX2_append, Cond.code yX2_append cX2_append 2 (some .int), Cond.constant RX2 25 (-2000010), Cond.fieldLink RX2 11 "LiveUpgrader$Converter" "steps" "[LLiveUpgrader$Step;", Cond.methodLink RX2 21 yX2_isFull]
def wsX6_addField : List Cond := .code yX6_addField cX6_addField 5 (some .int) :: ((wsX6_addField_r1 ++ (wsX6_addField_r2 ++ wsX6_addField_r3)) ++ wsX10 ++ wsX60 ++ wsX40 ++ wsX20)
def wsX6_dropField_r1 : List Cond := [Cond.constant RX6 41 (-2000001), Cond.constant RX6 59 (-2000008), Cond.constant RX6 81 (-2000005), Cond.methodLink RX6 37 yX6_historyOf, Cond.instanceMethod yX6_historyOf, Cond.selects RX6 yX6_historyOf yX6_historyOf, Cond.initialized RX6, Cond.code yX6_historyOf cX6_historyOf 2 (some (.object "LiveUpgrader$ClassHistory")), Cond.fieldLink RX6 29 "LiveUpgrader" "classCount" "I", Cond.fieldLink RX6 11 "LiveUpgrader" "histories" "[LLiveUpgrader$ClassHistory;", Cond.methodLink RX6 60 yX1_stagedSet, Cond.instanceMethod yX1_stagedSet, Cond.selects RX1 yX1_stagedSet yX1_stagedSet, Cond.initialized RX1, Cond.code yX1_stagedSet cX1_stagedSet 1 (some .int), Cond.fieldLink RX1 26 "LiveUpgrader$ClassHistory" "current" "I", Cond.methodLink RX1 29 yX1_fieldSet, Cond.instanceMethod yX1_fieldSet, Cond.selects RX1 yX1_fieldSet yX1_fieldSet, Cond.code yX1_fieldSet cX1_fieldSet 2 (some .int), Cond.fieldLink RX1 9 "LiveUpgrader$ClassHistory" "fieldSets" "[I", Cond.methodLink RX6 71 yX6_contains, Cond.static yX6_contains, Cond.code yX6_contains cX6_contains 2 (some .boolean)]
def wsX6_dropField_r2 : List Cond := [Cond.methodLink RX6 63 yX6_isField, Cond.static yX6_isField, Cond.code yX6_isField cX6_isField 1 (some .boolean), Cond.methodLink RX6 77 yX1_append, Cond.instanceMethod yX1_append, Cond.selects RX1 yX1_append yX1_append, Cond.code yX1_append cX1_append 5 (some .int), Cond.fieldLink RX1 17 "LiveUpgrader$ClassHistory" "converters" "[LLiveUpgrader$Converter;", Cond.constant RX1 37 (-2000010), Cond.classLink RX1 46 RX4, Cond.instantiable RX4 3, Cond.initialized RX4, Cond.methodLink RX1 33 yX1_isFull, Cond.instanceMethod yX1_isFull, Cond.selects RX1 yX1_isFull yX1_isFull, Cond.code yX1_isFull cX1_isFull 1 (some .boolean), Cond.methodLink RX1 45 yX2_isFull, Cond.instanceMethod yX2_isFull, Cond.selects RX2 yX2_isFull yX2_isFull, Cond.initialized RX2, Cond.code yX2_isFull cX2_isFull 1 (some .boolean), Cond.fieldLink RX2 17 "LiveUpgrader$Converter" "length" "I", Cond.methodLink RX1 48 yX4_init, Cond.instanceMethod yX4_init]
def wsX6_dropField_r3 : List Cond := [Cond.code yX4_init cX4_init 4 none, Cond.methodLink RX4 1 objectInit, Cond.instanceMethod objectInit, Cond.code objectInit ⟨#[0xb1]⟩ 1 none, Cond.fieldLink RX4 7 "LiveUpgrader$Step" "kind" "I", Cond.fieldLink RX4 13 "LiveUpgrader$Step" "field" "I", Cond.fieldLink RX4 16 "LiveUpgrader$Step" "operand" "I", Cond.methodLink RX1 51 yX4_changedSet, Cond.instanceMethod yX4_changedSet, Cond.selects RX4 yX4_changedSet yX4_changedSet, Cond.code yX4_changedSet cX4_changedSet 2 (some .int), Cond.methodLink RX1 54 yX2_append, Cond.instanceMethod yX2_append, Cond.selects RX2 yX2_append yX2_append, Cond.code yX2_append cX2_append 2 (some .int), Cond.constant RX2 25 (-2000010), Cond.fieldLink RX2 11 "LiveUpgrader$Converter" "steps" "[LLiveUpgrader$Step;", Cond.methodLink RX2 21 yX2_isFull]
def wsX6_dropField : List Cond := .code yX6_dropField cX6_dropField 4 (some .int) :: ((wsX6_dropField_r1 ++ (wsX6_dropField_r2 ++ wsX6_dropField_r3)) ++ wsX10 ++ wsX60 ++ wsX40 ++ wsX20)
def wsX6_renameField_r1 : List Cond := [Cond.constant RX6 41 (-2000001), Cond.constant RX6 59 (-2000008), Cond.constant RX6 81 (-2000005), Cond.constant RX6 28 (-2000007), Cond.constant RX6 54 (-2000009), Cond.methodLink RX6 37 yX6_historyOf, Cond.instanceMethod yX6_historyOf, Cond.selects RX6 yX6_historyOf yX6_historyOf, Cond.initialized RX6, Cond.code yX6_historyOf cX6_historyOf 2 (some (.object "LiveUpgrader$ClassHistory")), Cond.fieldLink RX6 29 "LiveUpgrader" "classCount" "I", Cond.fieldLink RX6 11 "LiveUpgrader" "histories" "[LLiveUpgrader$ClassHistory;", Cond.methodLink RX6 60 yX1_stagedSet, Cond.instanceMethod yX1_stagedSet, Cond.selects RX1 yX1_stagedSet yX1_stagedSet, Cond.initialized RX1, Cond.code yX1_stagedSet cX1_stagedSet 1 (some .int), Cond.fieldLink RX1 26 "LiveUpgrader$ClassHistory" "current" "I", Cond.methodLink RX1 29 yX1_fieldSet, Cond.instanceMethod yX1_fieldSet, Cond.selects RX1 yX1_fieldSet yX1_fieldSet, Cond.code yX1_fieldSet cX1_fieldSet 2 (some .int), Cond.fieldLink RX1 9 "LiveUpgrader$ClassHistory" "fieldSets" "[I", Cond.methodLink RX6 71 yX6_contains]
def wsX6_renameField_r2 : List Cond := [Cond.static yX6_contains, Cond.code yX6_contains cX6_contains 2 (some .boolean), Cond.methodLink RX6 63 yX6_isField, Cond.static yX6_isField, Cond.code yX6_isField cX6_isField 1 (some .boolean), Cond.methodLink RX6 77 yX1_append, Cond.instanceMethod yX1_append, Cond.selects RX1 yX1_append yX1_append, Cond.code yX1_append cX1_append 5 (some .int), Cond.fieldLink RX1 17 "LiveUpgrader$ClassHistory" "converters" "[LLiveUpgrader$Converter;", Cond.constant RX1 37 (-2000010), Cond.classLink RX1 46 RX4, Cond.instantiable RX4 3, Cond.initialized RX4, Cond.methodLink RX1 33 yX1_isFull, Cond.instanceMethod yX1_isFull, Cond.selects RX1 yX1_isFull yX1_isFull, Cond.code yX1_isFull cX1_isFull 1 (some .boolean), Cond.methodLink RX1 45 yX2_isFull, Cond.instanceMethod yX2_isFull, Cond.selects RX2 yX2_isFull yX2_isFull, Cond.initialized RX2, Cond.code yX2_isFull cX2_isFull 1 (some .boolean), Cond.fieldLink RX2 17 "LiveUpgrader$Converter" "length" "I"]
def wsX6_renameField_r3 : List Cond := [Cond.methodLink RX1 48 yX4_init, Cond.instanceMethod yX4_init, Cond.code yX4_init cX4_init 4 none, Cond.methodLink RX4 1 objectInit, Cond.instanceMethod objectInit, Cond.code objectInit ⟨#[0xb1]⟩ 1 none, Cond.fieldLink RX4 7 "LiveUpgrader$Step" "kind" "I", Cond.fieldLink RX4 13 "LiveUpgrader$Step" "field" "I", Cond.fieldLink RX4 16 "LiveUpgrader$Step" "operand" "I", Cond.methodLink RX1 51 yX4_changedSet, Cond.instanceMethod yX4_changedSet, Cond.selects RX4 yX4_changedSet yX4_changedSet, Cond.code yX4_changedSet cX4_changedSet 2 (some .int), Cond.methodLink RX1 54 yX2_append, Cond.instanceMethod yX2_append, Cond.selects RX2 yX2_append yX2_append, Cond.code yX2_append cX2_append 2 (some .int), Cond.constant RX2 25 (-2000010), Cond.fieldLink RX2 11 "LiveUpgrader$Converter" "steps" "[LLiveUpgrader$Step;", Cond.methodLink RX2 21 yX2_isFull]
def wsX6_renameField : List Cond := .code yX6_renameField cX6_renameField 5 (some .int) :: ((wsX6_renameField_r1 ++ (wsX6_renameField_r2 ++ wsX6_renameField_r3)) ++ wsX10 ++ wsX60 ++ wsX40 ++ wsX20)
def wsX6_scaleField_r1 : List Cond := [Cond.constant RX6 41 (-2000001), Cond.constant RX6 59 (-2000008), Cond.constant RX6 81 (-2000005), Cond.constant RX6 82 (-100000), Cond.constant RX6 83 (100000), Cond.constant RX6 28 (-2000007), Cond.methodLink RX6 37 yX6_historyOf, Cond.instanceMethod yX6_historyOf, Cond.selects RX6 yX6_historyOf yX6_historyOf, Cond.initialized RX6, Cond.code yX6_historyOf cX6_historyOf 2 (some (.object "LiveUpgrader$ClassHistory")), Cond.fieldLink RX6 29 "LiveUpgrader" "classCount" "I", Cond.fieldLink RX6 11 "LiveUpgrader" "histories" "[LLiveUpgrader$ClassHistory;", Cond.methodLink RX6 60 yX1_stagedSet, Cond.instanceMethod yX1_stagedSet, Cond.selects RX1 yX1_stagedSet yX1_stagedSet, Cond.initialized RX1, Cond.code yX1_stagedSet cX1_stagedSet 1 (some .int), Cond.fieldLink RX1 26 "LiveUpgrader$ClassHistory" "current" "I", Cond.methodLink RX1 29 yX1_fieldSet, Cond.instanceMethod yX1_fieldSet, Cond.selects RX1 yX1_fieldSet yX1_fieldSet, Cond.code yX1_fieldSet cX1_fieldSet 2 (some .int), Cond.fieldLink RX1 9 "LiveUpgrader$ClassHistory" "fieldSets" "[I"]
def wsX6_scaleField_r2 : List Cond := [Cond.methodLink RX6 71 yX6_contains, Cond.static yX6_contains, Cond.code yX6_contains cX6_contains 2 (some .boolean), Cond.methodLink RX6 63 yX6_isField, Cond.static yX6_isField, Cond.code yX6_isField cX6_isField 1 (some .boolean), Cond.methodLink RX6 77 yX1_append, Cond.instanceMethod yX1_append, Cond.selects RX1 yX1_append yX1_append, Cond.code yX1_append cX1_append 5 (some .int), Cond.fieldLink RX1 17 "LiveUpgrader$ClassHistory" "converters" "[LLiveUpgrader$Converter;", Cond.constant RX1 37 (-2000010), Cond.classLink RX1 46 RX4, Cond.instantiable RX4 3, Cond.initialized RX4, Cond.methodLink RX1 33 yX1_isFull, Cond.instanceMethod yX1_isFull, Cond.selects RX1 yX1_isFull yX1_isFull, Cond.code yX1_isFull cX1_isFull 1 (some .boolean), Cond.methodLink RX1 45 yX2_isFull, Cond.instanceMethod yX2_isFull, Cond.selects RX2 yX2_isFull yX2_isFull, Cond.initialized RX2, Cond.code yX2_isFull cX2_isFull 1 (some .boolean)]
def wsX6_scaleField_r3 : List Cond := [Cond.fieldLink RX2 17 "LiveUpgrader$Converter" "length" "I", Cond.methodLink RX1 48 yX4_init, Cond.instanceMethod yX4_init, Cond.code yX4_init cX4_init 4 none, Cond.methodLink RX4 1 objectInit, Cond.instanceMethod objectInit, Cond.code objectInit ⟨#[0xb1]⟩ 1 none, Cond.fieldLink RX4 7 "LiveUpgrader$Step" "kind" "I", Cond.fieldLink RX4 13 "LiveUpgrader$Step" "field" "I", Cond.fieldLink RX4 16 "LiveUpgrader$Step" "operand" "I", Cond.methodLink RX1 51 yX4_changedSet, Cond.instanceMethod yX4_changedSet, Cond.selects RX4 yX4_changedSet yX4_changedSet, Cond.code yX4_changedSet cX4_changedSet 2 (some .int), Cond.methodLink RX1 54 yX2_append, Cond.instanceMethod yX2_append, Cond.selects RX2 yX2_append yX2_append, Cond.code yX2_append cX2_append 2 (some .int), Cond.constant RX2 25 (-2000010), Cond.fieldLink RX2 11 "LiveUpgrader$Converter" "steps" "[LLiveUpgrader$Step;", Cond.methodLink RX2 21 yX2_isFull]
def wsX6_scaleField : List Cond := .code yX6_scaleField cX6_scaleField 5 (some .int) :: ((wsX6_scaleField_r1 ++ (wsX6_scaleField_r2 ++ wsX6_scaleField_r3)) ++ wsX10 ++ wsX60 ++ wsX40 ++ wsX20)
def wsX6_mergeField_r1 : List Cond := [Cond.constant RX6 41 (-2000001), Cond.constant RX6 59 (-2000008), Cond.constant RX6 81 (-2000005), Cond.constant RX6 28 (-2000007), Cond.methodLink RX6 37 yX6_historyOf, Cond.instanceMethod yX6_historyOf, Cond.selects RX6 yX6_historyOf yX6_historyOf, Cond.initialized RX6, Cond.code yX6_historyOf cX6_historyOf 2 (some (.object "LiveUpgrader$ClassHistory")), Cond.fieldLink RX6 29 "LiveUpgrader" "classCount" "I", Cond.fieldLink RX6 11 "LiveUpgrader" "histories" "[LLiveUpgrader$ClassHistory;", Cond.methodLink RX6 60 yX1_stagedSet, Cond.instanceMethod yX1_stagedSet, Cond.selects RX1 yX1_stagedSet yX1_stagedSet, Cond.initialized RX1, Cond.code yX1_stagedSet cX1_stagedSet 1 (some .int), Cond.fieldLink RX1 26 "LiveUpgrader$ClassHistory" "current" "I", Cond.methodLink RX1 29 yX1_fieldSet, Cond.instanceMethod yX1_fieldSet, Cond.selects RX1 yX1_fieldSet yX1_fieldSet, Cond.code yX1_fieldSet cX1_fieldSet 2 (some .int), Cond.fieldLink RX1 9 "LiveUpgrader$ClassHistory" "fieldSets" "[I", Cond.methodLink RX6 71 yX6_contains, Cond.static yX6_contains]
def wsX6_mergeField_r2 : List Cond := [Cond.code yX6_contains cX6_contains 2 (some .boolean), Cond.methodLink RX6 63 yX6_isField, Cond.static yX6_isField, Cond.code yX6_isField cX6_isField 1 (some .boolean), Cond.methodLink RX6 77 yX1_append, Cond.instanceMethod yX1_append, Cond.selects RX1 yX1_append yX1_append, Cond.code yX1_append cX1_append 5 (some .int), Cond.fieldLink RX1 17 "LiveUpgrader$ClassHistory" "converters" "[LLiveUpgrader$Converter;", Cond.constant RX1 37 (-2000010), Cond.classLink RX1 46 RX4, Cond.instantiable RX4 3, Cond.initialized RX4, Cond.methodLink RX1 33 yX1_isFull, Cond.instanceMethod yX1_isFull, Cond.selects RX1 yX1_isFull yX1_isFull, Cond.code yX1_isFull cX1_isFull 1 (some .boolean), Cond.methodLink RX1 45 yX2_isFull, Cond.instanceMethod yX2_isFull, Cond.selects RX2 yX2_isFull yX2_isFull, Cond.initialized RX2, Cond.code yX2_isFull cX2_isFull 1 (some .boolean), Cond.fieldLink RX2 17 "LiveUpgrader$Converter" "length" "I", Cond.methodLink RX1 48 yX4_init]
def wsX6_mergeField_r3 : List Cond := [Cond.instanceMethod yX4_init, Cond.code yX4_init cX4_init 4 none, Cond.methodLink RX4 1 objectInit, Cond.instanceMethod objectInit, Cond.code objectInit ⟨#[0xb1]⟩ 1 none, Cond.fieldLink RX4 7 "LiveUpgrader$Step" "kind" "I", Cond.fieldLink RX4 13 "LiveUpgrader$Step" "field" "I", Cond.fieldLink RX4 16 "LiveUpgrader$Step" "operand" "I", Cond.methodLink RX1 51 yX4_changedSet, Cond.instanceMethod yX4_changedSet, Cond.selects RX4 yX4_changedSet yX4_changedSet, Cond.code yX4_changedSet cX4_changedSet 2 (some .int), Cond.methodLink RX1 54 yX2_append, Cond.instanceMethod yX2_append, Cond.selects RX2 yX2_append yX2_append, Cond.code yX2_append cX2_append 2 (some .int), Cond.constant RX2 25 (-2000010), Cond.fieldLink RX2 11 "LiveUpgrader$Converter" "steps" "[LLiveUpgrader$Step;", Cond.methodLink RX2 21 yX2_isFull]
def wsX6_mergeField : List Cond := .code yX6_mergeField cX6_mergeField 5 (some .int) :: ((wsX6_mergeField_r1 ++ (wsX6_mergeField_r2 ++ wsX6_mergeField_r3)) ++ wsX10 ++ wsX60 ++ wsX40 ++ wsX20)
def wsX6_activate : List Cond := .code yX6_activate cX6_activate 3 (some .int) :: ([.constant RX6 41 (-2000001), .constant RX6 59 (-2000008), .methodLink RX6 37 yX6_historyOf, .instanceMethod yX6_historyOf, .selects RX6 yX6_historyOf yX6_historyOf, .initialized RX6, .code yX6_historyOf cX6_historyOf 2 (some (.object "LiveUpgrader$ClassHistory")), .fieldLink RX6 29 "LiveUpgrader" "classCount" "I", .fieldLink RX6 11 "LiveUpgrader" "histories" "[LLiveUpgrader$ClassHistory;", .methodLink RX6 84 yX1_activateStaged, .instanceMethod yX1_activateStaged, .selects RX1 yX1_activateStaged yX1_activateStaged, .initialized RX1, .code yX1_activateStaged cX1_activateStaged 1 (some .int), .fieldLink RX1 26 "LiveUpgrader$ClassHistory" "current" "I", .fieldLink RX1 41 "LiveUpgrader$ClassHistory" "staged" "Z", .methodLink RX1 33 yX1_isFull, .instanceMethod yX1_isFull, .selects RX1 yX1_isFull yX1_isFull, .code yX1_isFull cX1_isFull 1 (some .boolean)] ++ wsX10 ++ wsX60)
def wsX6_discard : List Cond := .code yX6_discard cX6_discard 3 (some .int) :: ([.constant RX6 41 (-2000001), .constant RX6 59 (-2000008), .methodLink RX6 37 yX6_historyOf, .instanceMethod yX6_historyOf, .selects RX6 yX6_historyOf yX6_historyOf, .initialized RX6, .code yX6_historyOf cX6_historyOf 2 (some (.object "LiveUpgrader$ClassHistory")), .fieldLink RX6 29 "LiveUpgrader" "classCount" "I", .fieldLink RX6 11 "LiveUpgrader" "histories" "[LLiveUpgrader$ClassHistory;", .methodLink RX6 87 yX1_discardStaged, .instanceMethod yX1_discardStaged, .selects RX1 yX1_discardStaged yX1_discardStaged, .initialized RX1, .code yX1_discardStaged cX1_discardStaged 1 (some .int), .fieldLink RX1 41 "LiveUpgrader$ClassHistory" "staged" "Z", .fieldLink RX1 17 "LiveUpgrader$ClassHistory" "converters" "[LLiveUpgrader$Converter;", .fieldLink RX1 26 "LiveUpgrader$ClassHistory" "current" "I", .methodLink RX1 33 yX1_isFull, .instanceMethod yX1_isFull, .selects RX1 yX1_isFull yX1_isFull, .code yX1_isFull cX1_isFull 1 (some .boolean)] ++ wsX10 ++ wsX60 ++ wsX20)
def wsX6_countFrames : List Cond := .code yX6_countFrames cX6_countFrames 6 (some .int) :: ([.fieldLink RX6 17 "LiveUpgrader" "stacks" "[LLiveUpgrader$CallStack;", .methodLink RX6 180 yX0_countFrames, .instanceMethod yX0_countFrames, .selects RX0 yX0_countFrames yX0_countFrames, .initialized RX0, .code yX0_countFrames cX0_countFrames 7 (some .int), .fieldLink RX0 17 "LiveUpgrader$CallStack" "size" "I", .fieldLink RX0 11 "LiveUpgrader$CallStack" "frames" "[LLiveUpgrader$Frame;"] ++ wsX60 ++ wsX00 ++ wsX30 ++ wsX10)
def wsX6_rollBackObjects : List Cond := .code yX6_rollBackObjects cX6_rollBackObjects 5 none :: ([.fieldLink RX6 136 "LiveUpgrader" "createdCount" "I", .fieldLink RX6 24 "LiveUpgrader" "objects" "[LLiveUpgrader$StoredObject;", .methodLink RX6 192 yX5_revert, .instanceMethod yX5_revert, .selects RX5 yX5_revert yX5_revert, .initialized RX5, .code yX5_revert cX5_revert 1 none, .fieldLink RX5 24 "LiveUpgrader$StoredObject" "version" "I", .fieldLink RX5 20 "LiveUpgrader$StoredObject" "firstVersion" "I"] ++ wsX60 ++ wsX50 ++ wsX10)
def wsX6_rollback_r1 : List Cond := [Cond.constant RX6 41 (-2000001), Cond.constant RX6 45 (-2000002), Cond.constant RX6 93 (-2000015), Cond.methodLink RX6 37 yX6_historyOf, Cond.instanceMethod yX6_historyOf, Cond.selects RX6 yX6_historyOf yX6_historyOf, Cond.initialized RX6, Cond.code yX6_historyOf cX6_historyOf 2 (some (.object "LiveUpgrader$ClassHistory")), Cond.fieldLink RX6 29 "LiveUpgrader" "classCount" "I", Cond.fieldLink RX6 11 "LiveUpgrader" "histories" "[LLiveUpgrader$ClassHistory;", Cond.methodLink RX6 90 yX6_countFrames, Cond.instanceMethod yX6_countFrames, Cond.selects RX6 yX6_countFrames yX6_countFrames, Cond.code yX6_countFrames cX6_countFrames 6 (some .int), Cond.fieldLink RX6 17 "LiveUpgrader" "stacks" "[LLiveUpgrader$CallStack;", Cond.methodLink RX6 180 yX0_countFrames, Cond.instanceMethod yX0_countFrames, Cond.selects RX0 yX0_countFrames yX0_countFrames, Cond.initialized RX0, Cond.code yX0_countFrames cX0_countFrames 7 (some .int), Cond.fieldLink RX0 17 "LiveUpgrader$CallStack" "size" "I", Cond.fieldLink RX0 11 "LiveUpgrader$CallStack" "frames" "[LLiveUpgrader$Frame;", Cond.methodLink RX6 94 yX6_rollBackObjects, Cond.instanceMethod yX6_rollBackObjects]
def wsX6_rollback_r2 : List Cond := [Cond.selects RX6 yX6_rollBackObjects yX6_rollBackObjects, Cond.code yX6_rollBackObjects cX6_rollBackObjects 5 none, Cond.fieldLink RX6 136 "LiveUpgrader" "createdCount" "I", Cond.fieldLink RX6 24 "LiveUpgrader" "objects" "[LLiveUpgrader$StoredObject;", Cond.methodLink RX6 192 yX5_revert, Cond.instanceMethod yX5_revert, Cond.selects RX5 yX5_revert yX5_revert, Cond.initialized RX5, Cond.code yX5_revert cX5_revert 1 none, Cond.fieldLink RX5 24 "LiveUpgrader$StoredObject" "version" "I", Cond.fieldLink RX5 20 "LiveUpgrader$StoredObject" "firstVersion" "I", Cond.methodLink RX6 97 yX1_removeCurrent, Cond.instanceMethod yX1_removeCurrent, Cond.selects RX1 yX1_removeCurrent yX1_removeCurrent, Cond.initialized RX1, Cond.code yX1_removeCurrent cX1_removeCurrent 1 (some .int), Cond.fieldLink RX1 26 "LiveUpgrader$ClassHistory" "current" "I", Cond.fieldLink RX1 41 "LiveUpgrader$ClassHistory" "staged" "Z"]
def wsX6_rollback : List Cond := .code yX6_rollback cX6_rollback 4 (some .int) :: ((wsX6_rollback_r1 ++ wsX6_rollback_r2) ++ wsX10 ++ wsX60 ++ wsX00 ++ wsX30 ++ wsX50)
def wsX6_stackOf : List Cond := .code yX6_stackOf cX6_stackOf 2 (some (.object "LiveUpgrader$CallStack")) :: ([.fieldLink RX6 17 "LiveUpgrader" "stacks" "[LLiveUpgrader$CallStack;"] ++ wsX60)
def wsX6_call_r1 : List Cond := [Cond.constant RX6 104 (-2000003), Cond.constant RX6 41 (-2000001), Cond.methodLink RX6 100 yX6_stackOf, Cond.instanceMethod yX6_stackOf, Cond.selects RX6 yX6_stackOf yX6_stackOf, Cond.initialized RX6, Cond.code yX6_stackOf cX6_stackOf 2 (some (.object "LiveUpgrader$CallStack")), Cond.fieldLink RX6 17 "LiveUpgrader" "stacks" "[LLiveUpgrader$CallStack;", Cond.methodLink RX6 37 yX6_historyOf, Cond.instanceMethod yX6_historyOf, Cond.selects RX6 yX6_historyOf yX6_historyOf, Cond.code yX6_historyOf cX6_historyOf 2 (some (.object "LiveUpgrader$ClassHistory")), Cond.fieldLink RX6 29 "LiveUpgrader" "classCount" "I", Cond.fieldLink RX6 11 "LiveUpgrader" "histories" "[LLiveUpgrader$ClassHistory;", Cond.methodLink RX6 105 yX0_push, Cond.instanceMethod yX0_push, Cond.selects RX0 yX0_push yX0_push, Cond.initialized RX0, Cond.code yX0_push cX0_push 2 (some .int), Cond.fieldLink RX0 17 "LiveUpgrader$CallStack" "size" "I", Cond.constant RX0 21 (-2000010), Cond.fieldLink RX0 11 "LiveUpgrader$CallStack" "frames" "[LLiveUpgrader$Frame;", Cond.classLink RX0 9 RX3, Cond.instantiable RX3 3]
def wsX6_call_r2 : List Cond := [Cond.initialized RX3, Cond.methodLink RX0 22 yX3_init, Cond.instanceMethod yX3_init, Cond.code yX3_init cX3_init 2 none, Cond.methodLink RX3 1 objectInit, Cond.instanceMethod objectInit, Cond.code objectInit ⟨#[0xb1]⟩ 1 none, Cond.fieldLink RX3 7 "LiveUpgrader$Frame" "history" "LLiveUpgrader$ClassHistory;", Cond.fieldLink RX3 19 "LiveUpgrader$Frame" "version" "I"]
def wsX6_call : List Cond := .code yX6_call cX6_call 5 (some .int) :: ((wsX6_call_r1 ++ wsX6_call_r2) ++ wsX60 ++ wsX00 ++ wsX30 ++ wsX10)
def wsX6_finish : List Cond := .code yX6_finish cX6_finish 3 (some .int) :: ([.constant RX6 104 (-2000003), .methodLink RX6 100 yX6_stackOf, .instanceMethod yX6_stackOf, .selects RX6 yX6_stackOf yX6_stackOf, .initialized RX6, .code yX6_stackOf cX6_stackOf 2 (some (.object "LiveUpgrader$CallStack")), .fieldLink RX6 17 "LiveUpgrader" "stacks" "[LLiveUpgrader$CallStack;", .methodLink RX6 109 yX0_pop, .instanceMethod yX0_pop, .selects RX0 yX0_pop yX0_pop, .initialized RX0, .code yX0_pop cX0_pop 1 (some .int), .fieldLink RX0 17 "LiveUpgrader$CallStack" "size" "I", .constant RX0 25 (-2000006), .fieldLink RX0 11 "LiveUpgrader$CallStack" "frames" "[LLiveUpgrader$Frame;"] ++ wsX60 ++ wsX00)
def wsX6_depth : List Cond := .code yX6_depth cX6_depth 3 (some .int) :: ([.constant RX6 104 (-2000003), .methodLink RX6 100 yX6_stackOf, .instanceMethod yX6_stackOf, .selects RX6 yX6_stackOf yX6_stackOf, .initialized RX6, .code yX6_stackOf cX6_stackOf 2 (some (.object "LiveUpgrader$CallStack")), .fieldLink RX6 17 "LiveUpgrader" "stacks" "[LLiveUpgrader$CallStack;"] ++ wsX00 ++ wsX60)
def wsX6_frameClass : List Cond := .code yX6_frameClass cX6_frameClass 5 (some .int) :: ([.constant RX6 104 (-2000003), .constant RX6 119 (-2000006), .methodLink RX6 100 yX6_stackOf, .instanceMethod yX6_stackOf, .selects RX6 yX6_stackOf yX6_stackOf, .initialized RX6, .code yX6_stackOf cX6_stackOf 2 (some (.object "LiveUpgrader$CallStack")), .fieldLink RX6 17 "LiveUpgrader" "stacks" "[LLiveUpgrader$CallStack;", .methodLink RX6 115 yX0_frameAt, .instanceMethod yX0_frameAt, .selects RX0 yX0_frameAt yX0_frameAt, .initialized RX0, .code yX0_frameAt cX0_frameAt 2 (some (.object "LiveUpgrader$Frame")), .fieldLink RX0 17 "LiveUpgrader$CallStack" "size" "I", .fieldLink RX0 11 "LiveUpgrader$CallStack" "frames" "[LLiveUpgrader$Frame;"] ++ wsX30 ++ wsX10 ++ wsX60 ++ wsX00)
def wsX6_frameVersion : List Cond := .code yX6_frameVersion cX6_frameVersion 5 (some .int) :: ([.constant RX6 104 (-2000003), .constant RX6 119 (-2000006), .methodLink RX6 100 yX6_stackOf, .instanceMethod yX6_stackOf, .selects RX6 yX6_stackOf yX6_stackOf, .initialized RX6, .code yX6_stackOf cX6_stackOf 2 (some (.object "LiveUpgrader$CallStack")), .fieldLink RX6 17 "LiveUpgrader" "stacks" "[LLiveUpgrader$CallStack;", .methodLink RX6 115 yX0_frameAt, .instanceMethod yX0_frameAt, .selects RX0 yX0_frameAt yX0_frameAt, .initialized RX0, .code yX0_frameAt cX0_frameAt 2 (some (.object "LiveUpgrader$Frame")), .fieldLink RX0 17 "LiveUpgrader$CallStack" "size" "I", .fieldLink RX0 11 "LiveUpgrader$CallStack" "frames" "[LLiveUpgrader$Frame;"] ++ wsX30 ++ wsX60 ++ wsX00)
def wsX6_oldFrames : List Cond := .code yX6_oldFrames cX6_oldFrames 3 (some .int) :: ([.constant RX6 41 (-2000001), .methodLink RX6 37 yX6_historyOf, .instanceMethod yX6_historyOf, .selects RX6 yX6_historyOf yX6_historyOf, .initialized RX6, .code yX6_historyOf cX6_historyOf 2 (some (.object "LiveUpgrader$ClassHistory")), .fieldLink RX6 29 "LiveUpgrader" "classCount" "I", .fieldLink RX6 11 "LiveUpgrader" "histories" "[LLiveUpgrader$ClassHistory;", .methodLink RX6 90 yX6_countFrames, .instanceMethod yX6_countFrames, .selects RX6 yX6_countFrames yX6_countFrames, .code yX6_countFrames cX6_countFrames 6 (some .int), .fieldLink RX6 17 "LiveUpgrader" "stacks" "[LLiveUpgrader$CallStack;", .methodLink RX6 180 yX0_countFrames, .instanceMethod yX0_countFrames, .selects RX0 yX0_countFrames yX0_countFrames, .initialized RX0, .code yX0_countFrames cX0_countFrames 7 (some .int), .fieldLink RX0 17 "LiveUpgrader$CallStack" "size" "I", .fieldLink RX0 11 "LiveUpgrader$CallStack" "frames" "[LLiveUpgrader$Frame;"] ++ wsX10 ++ wsX60 ++ wsX00 ++ wsX30)
def wsX6_create_r1 : List Cond := [Cond.constant RX6 104 (-2000003), Cond.constant RX6 119 (-2000006), Cond.fieldLink RX6 136 "LiveUpgrader" "createdCount" "I", Cond.constant RX6 33 (-2000010), Cond.fieldLink RX6 24 "LiveUpgrader" "objects" "[LLiveUpgrader$StoredObject;", Cond.classLink RX6 22 RX5, Cond.instantiable RX5 4, Cond.initialized RX5, Cond.methodLink RX6 100 yX6_stackOf, Cond.instanceMethod yX6_stackOf, Cond.selects RX6 yX6_stackOf yX6_stackOf, Cond.initialized RX6, Cond.code yX6_stackOf cX6_stackOf 2 (some (.object "LiveUpgrader$CallStack")), Cond.fieldLink RX6 17 "LiveUpgrader" "stacks" "[LLiveUpgrader$CallStack;", Cond.methodLink RX6 132 yX0_top, Cond.instanceMethod yX0_top, Cond.selects RX0 yX0_top yX0_top, Cond.initialized RX0, Cond.code yX0_top cX0_top 1 (some (.object "LiveUpgrader$Frame")), Cond.fieldLink RX0 17 "LiveUpgrader$CallStack" "size" "I", Cond.methodLink RX0 26 yX0_frameAt, Cond.instanceMethod yX0_frameAt, Cond.selects RX0 yX0_frameAt yX0_frameAt, Cond.code yX0_frameAt cX0_frameAt 2 (some (.object "LiveUpgrader$Frame"))]
def wsX6_create_r2 : List Cond := [Cond.fieldLink RX0 11 "LiveUpgrader$CallStack" "frames" "[LLiveUpgrader$Frame;", Cond.methodLink RX6 139 yX5_init, Cond.instanceMethod yX5_init, Cond.code yX5_init cX5_init 3 none, Cond.methodLink RX5 3 objectInit, Cond.instanceMethod objectInit, Cond.code objectInit ⟨#[0xb1]⟩ 1 none, Cond.classLink RX5 9 "[[I", Cond.arrayClass .int, Cond.fieldLink RX5 11 "LiveUpgrader$StoredObject" "rows" "[[I", Cond.fieldLink RX5 16 "LiveUpgrader$StoredObject" "history" "LLiveUpgrader$ClassHistory;", Cond.fieldLink RX5 20 "LiveUpgrader$StoredObject" "firstVersion" "I", Cond.fieldLink RX5 24 "LiveUpgrader$StoredObject" "version" "I", Cond.methodLink RX6 142 yX3_pin, Cond.instanceMethod yX3_pin, Cond.selects RX3 yX3_pin yX3_pin, Cond.initialized RX3, Cond.code yX3_pin cX3_pin 2 none, Cond.fieldLink RX3 22 "LiveUpgrader$Frame" "pins" "I"]
def wsX6_create : List Cond := .code yX6_create cX6_create 5 (some .int) :: ((wsX6_create_r1 ++ wsX6_create_r2) ++ wsX60 ++ wsX50 ++ wsX30 ++ wsX00)
def wsX6_existingObject : List Cond := .code yX6_existingObject cX6_existingObject 2 (some (.object "LiveUpgrader$StoredObject")) :: ([.fieldLink RX6 136 "LiveUpgrader" "createdCount" "I", .fieldLink RX6 24 "LiveUpgrader" "objects" "[LLiveUpgrader$StoredObject;"] ++ wsX60)
def wsX6_smallestPin : List Cond := .code yX6_smallestPin cX6_smallestPin 4 (some .int) :: ([.fieldLink RX6 17 "LiveUpgrader" "stacks" "[LLiveUpgrader$CallStack;", .methodLink RX6 182 Lib.Math.min.name, .static Lib.Math.min.name, .initialized "java/lang/Math", .code Lib.Math.min.name Lib.Math.min.code 2 (some .int), .methodLink RX6 181 yX0_smallestPin, .instanceMethod yX0_smallestPin, .selects RX0 yX0_smallestPin yX0_smallestPin, .initialized RX0, .code yX0_smallestPin cX0_smallestPin 4 (some .int), .fieldLink RX0 17 "LiveUpgrader$CallStack" "size" "I", .fieldLink RX0 11 "LiveUpgrader$CallStack" "frames" "[LLiveUpgrader$Frame;", .methodLink RX0 46 Lib.Math.min.name, .methodLink RX0 42 yX3_pins, .instanceMethod yX3_pins, .selects RX3 yX3_pins yX3_pins, .initialized RX3, .code yX3_pins cX3_pins 2 (some .boolean), .fieldLink RX3 22 "LiveUpgrader$Frame" "pins" "I"] ++ wsX60 ++ wsX00 ++ wsX30)
def wsX6_access_r1 : List Cond := [Cond.constant RX6 104 (-2000003), Cond.constant RX6 119 (-2000006), Cond.constant RX6 156 (-2000004), Cond.constant RX6 188 (-2000011), Cond.constant RX6 81 (-2000005), Cond.constant RX6 189 (-2000012), Cond.constant RX6 190 (-2000013), Cond.constant RX6 191 (-2000014), Cond.methodLink RX6 100 yX6_stackOf, Cond.instanceMethod yX6_stackOf, Cond.selects RX6 yX6_stackOf yX6_stackOf, Cond.initialized RX6, Cond.code yX6_stackOf cX6_stackOf 2 (some (.object "LiveUpgrader$CallStack")), Cond.fieldLink RX6 17 "LiveUpgrader" "stacks" "[LLiveUpgrader$CallStack;", Cond.methodLink RX6 132 yX0_top, Cond.instanceMethod yX0_top, Cond.selects RX0 yX0_top yX0_top, Cond.initialized RX0, Cond.code yX0_top cX0_top 1 (some (.object "LiveUpgrader$Frame")), Cond.fieldLink RX0 17 "LiveUpgrader$CallStack" "size" "I", Cond.methodLink RX0 26 yX0_frameAt, Cond.instanceMethod yX0_frameAt, Cond.selects RX0 yX0_frameAt yX0_frameAt, Cond.code yX0_frameAt cX0_frameAt 2 (some (.object "LiveUpgrader$Frame"))]
def wsX6_access_r2 : List Cond := [Cond.fieldLink RX0 11 "LiveUpgrader$CallStack" "frames" "[LLiveUpgrader$Frame;", Cond.methodLink RX6 149 yX6_existingObject, Cond.instanceMethod yX6_existingObject, Cond.selects RX6 yX6_existingObject yX6_existingObject, Cond.code yX6_existingObject cX6_existingObject 2 (some (.object "LiveUpgrader$StoredObject")), Cond.fieldLink RX6 136 "LiveUpgrader" "createdCount" "I", Cond.fieldLink RX6 24 "LiveUpgrader" "objects" "[LLiveUpgrader$StoredObject;", Cond.methodLink RX6 46 yX1_fieldSet, Cond.instanceMethod yX1_fieldSet, Cond.selects RX1 yX1_fieldSet yX1_fieldSet, Cond.initialized RX1, Cond.code yX1_fieldSet cX1_fieldSet 2 (some .int), Cond.fieldLink RX1 9 "LiveUpgrader$ClassHistory" "fieldSets" "[I", Cond.methodLink RX6 71 yX6_contains, Cond.static yX6_contains, Cond.code yX6_contains cX6_contains 2 (some .boolean), Cond.methodLink RX6 63 yX6_isField, Cond.static yX6_isField, Cond.code yX6_isField cX6_isField 1 (some .boolean), Cond.methodLink RX6 165 yX6_smallestPin, Cond.instanceMethod yX6_smallestPin, Cond.selects RX6 yX6_smallestPin yX6_smallestPin, Cond.code yX6_smallestPin cX6_smallestPin 4 (some .int), Cond.methodLink RX6 182 Lib.Math.min.name]
def wsX6_access_r3 : List Cond := [Cond.static Lib.Math.min.name, Cond.initialized "java/lang/Math", Cond.code Lib.Math.min.name Lib.Math.min.code 2 (some .int), Cond.methodLink RX6 181 yX0_smallestPin, Cond.instanceMethod yX0_smallestPin, Cond.selects RX0 yX0_smallestPin yX0_smallestPin, Cond.code yX0_smallestPin cX0_smallestPin 4 (some .int), Cond.methodLink RX0 46 Lib.Math.min.name, Cond.methodLink RX0 42 yX3_pins, Cond.instanceMethod yX3_pins, Cond.selects RX3 yX3_pins yX3_pins, Cond.initialized RX3, Cond.code yX3_pins cX3_pins 2 (some .boolean), Cond.fieldLink RX3 22 "LiveUpgrader$Frame" "pins" "I", Cond.methodLink RX6 173 yX5_convertTo, Cond.instanceMethod yX5_convertTo, Cond.selects RX5 yX5_convertTo yX5_convertTo, Cond.initialized RX5, Cond.code yX5_convertTo cX5_convertTo 3 (some .boolean), Cond.fieldLink RX5 24 "LiveUpgrader$StoredObject" "version" "I", Cond.fieldLink RX5 11 "LiveUpgrader$StoredObject" "rows" "[[I", Cond.methodLink RX5 27 arraycopyName, Cond.native arraycopyName, Cond.static arraycopyName]
def wsX6_access_r4 : List Cond := [Cond.initialized "java/lang/System", Cond.fieldLink RX5 16 "LiveUpgrader$StoredObject" "history" "LLiveUpgrader$ClassHistory;", Cond.methodLink RX5 39 yX2_applyTo, Cond.instanceMethod yX2_applyTo, Cond.selects RX2 yX2_applyTo yX2_applyTo, Cond.initialized RX2, Cond.code yX2_applyTo cX2_applyTo 3 (some .boolean), Cond.fieldLink RX2 17 "LiveUpgrader$Converter" "length" "I", Cond.fieldLink RX2 11 "LiveUpgrader$Converter" "steps" "[LLiveUpgrader$Step;", Cond.methodLink RX2 26 yX4_applyTo, Cond.instanceMethod yX4_applyTo, Cond.selects RX4 yX4_applyTo yX4_applyTo, Cond.initialized RX4, Cond.code yX4_applyTo cX4_applyTo 2 (some .boolean), Cond.fieldLink RX4 7 "LiveUpgrader$Step" "kind" "I", Cond.fieldLink RX4 13 "LiveUpgrader$Step" "field" "I", Cond.fieldLink RX4 16 "LiveUpgrader$Step" "operand" "I", Cond.methodLink RX4 19 yX4_put, Cond.static yX4_put, Cond.code yX4_put cX4_put 4 (some .boolean), Cond.static yX6_isValue, Cond.code yX6_isValue cX6_isValue 2 (some .boolean), Cond.constantLong RX6 176 (-1000000), Cond.constantLong RX6 178 (1000000)]
def wsX6_access_r5 : List Cond := [Cond.methodLink RX6 142 yX3_pin, Cond.instanceMethod yX3_pin, Cond.selects RX3 yX3_pin yX3_pin, Cond.code yX3_pin cX3_pin 2 none, Cond.methodLink RX6 159 yX5_valueOf, Cond.instanceMethod yX5_valueOf, Cond.selects RX5 yX5_valueOf yX5_valueOf, Cond.code yX5_valueOf cX5_valueOf 2 (some .int)]
def wsX6_access : List Cond := .code yX6_access cX6_access 7 (some .int) :: ((wsX6_access_r1 ++ (wsX6_access_r2 ++ (wsX6_access_r3 ++ (wsX6_access_r4 ++ wsX6_access_r5)))) ++ wsX50 ++ wsX10 ++ wsX30 ++ wsX60 ++ wsX00 ++ wsX20 ++ wsX40)
def wsX6_read_r1 : List Cond := [Cond.methodLink RX6 146 yX6_access, Cond.instanceMethod yX6_access, Cond.selects RX6 yX6_access yX6_access, Cond.initialized RX6, Cond.code yX6_access cX6_access 7 (some .int), Cond.constant RX6 104 (-2000003), Cond.constant RX6 119 (-2000006), Cond.constant RX6 156 (-2000004), Cond.constant RX6 188 (-2000011), Cond.constant RX6 81 (-2000005), Cond.constant RX6 189 (-2000012), Cond.constant RX6 190 (-2000013), Cond.constant RX6 191 (-2000014), Cond.methodLink RX6 100 yX6_stackOf, Cond.instanceMethod yX6_stackOf, Cond.selects RX6 yX6_stackOf yX6_stackOf, Cond.code yX6_stackOf cX6_stackOf 2 (some (.object "LiveUpgrader$CallStack")), Cond.fieldLink RX6 17 "LiveUpgrader" "stacks" "[LLiveUpgrader$CallStack;", Cond.methodLink RX6 132 yX0_top, Cond.instanceMethod yX0_top, Cond.selects RX0 yX0_top yX0_top, Cond.initialized RX0, Cond.code yX0_top cX0_top 1 (some (.object "LiveUpgrader$Frame")), Cond.fieldLink RX0 17 "LiveUpgrader$CallStack" "size" "I"]
def wsX6_read_r2 : List Cond := [Cond.methodLink RX0 26 yX0_frameAt, Cond.instanceMethod yX0_frameAt, Cond.selects RX0 yX0_frameAt yX0_frameAt, Cond.code yX0_frameAt cX0_frameAt 2 (some (.object "LiveUpgrader$Frame")), Cond.fieldLink RX0 11 "LiveUpgrader$CallStack" "frames" "[LLiveUpgrader$Frame;", Cond.methodLink RX6 149 yX6_existingObject, Cond.instanceMethod yX6_existingObject, Cond.selects RX6 yX6_existingObject yX6_existingObject, Cond.code yX6_existingObject cX6_existingObject 2 (some (.object "LiveUpgrader$StoredObject")), Cond.fieldLink RX6 136 "LiveUpgrader" "createdCount" "I", Cond.fieldLink RX6 24 "LiveUpgrader" "objects" "[LLiveUpgrader$StoredObject;", Cond.methodLink RX6 46 yX1_fieldSet, Cond.instanceMethod yX1_fieldSet, Cond.selects RX1 yX1_fieldSet yX1_fieldSet, Cond.initialized RX1, Cond.code yX1_fieldSet cX1_fieldSet 2 (some .int), Cond.fieldLink RX1 9 "LiveUpgrader$ClassHistory" "fieldSets" "[I", Cond.methodLink RX6 71 yX6_contains, Cond.static yX6_contains, Cond.code yX6_contains cX6_contains 2 (some .boolean), Cond.methodLink RX6 63 yX6_isField, Cond.static yX6_isField, Cond.code yX6_isField cX6_isField 1 (some .boolean), Cond.methodLink RX6 165 yX6_smallestPin]
def wsX6_read_r3 : List Cond := [Cond.instanceMethod yX6_smallestPin, Cond.selects RX6 yX6_smallestPin yX6_smallestPin, Cond.code yX6_smallestPin cX6_smallestPin 4 (some .int), Cond.methodLink RX6 182 Lib.Math.min.name, Cond.static Lib.Math.min.name, Cond.initialized "java/lang/Math", Cond.code Lib.Math.min.name Lib.Math.min.code 2 (some .int), Cond.methodLink RX6 181 yX0_smallestPin, Cond.instanceMethod yX0_smallestPin, Cond.selects RX0 yX0_smallestPin yX0_smallestPin, Cond.code yX0_smallestPin cX0_smallestPin 4 (some .int), Cond.methodLink RX0 46 Lib.Math.min.name, Cond.methodLink RX0 42 yX3_pins, Cond.instanceMethod yX3_pins, Cond.selects RX3 yX3_pins yX3_pins, Cond.initialized RX3, Cond.code yX3_pins cX3_pins 2 (some .boolean), Cond.fieldLink RX3 22 "LiveUpgrader$Frame" "pins" "I", Cond.methodLink RX6 173 yX5_convertTo, Cond.instanceMethod yX5_convertTo, Cond.selects RX5 yX5_convertTo yX5_convertTo, Cond.initialized RX5, Cond.code yX5_convertTo cX5_convertTo 3 (some .boolean), Cond.fieldLink RX5 24 "LiveUpgrader$StoredObject" "version" "I"]
def wsX6_read_r4 : List Cond := [Cond.fieldLink RX5 11 "LiveUpgrader$StoredObject" "rows" "[[I", Cond.methodLink RX5 27 arraycopyName, Cond.native arraycopyName, Cond.static arraycopyName, Cond.initialized "java/lang/System", Cond.fieldLink RX5 16 "LiveUpgrader$StoredObject" "history" "LLiveUpgrader$ClassHistory;", Cond.methodLink RX5 39 yX2_applyTo, Cond.instanceMethod yX2_applyTo, Cond.selects RX2 yX2_applyTo yX2_applyTo, Cond.initialized RX2, Cond.code yX2_applyTo cX2_applyTo 3 (some .boolean), Cond.fieldLink RX2 17 "LiveUpgrader$Converter" "length" "I", Cond.fieldLink RX2 11 "LiveUpgrader$Converter" "steps" "[LLiveUpgrader$Step;", Cond.methodLink RX2 26 yX4_applyTo, Cond.instanceMethod yX4_applyTo, Cond.selects RX4 yX4_applyTo yX4_applyTo, Cond.initialized RX4, Cond.code yX4_applyTo cX4_applyTo 2 (some .boolean), Cond.fieldLink RX4 7 "LiveUpgrader$Step" "kind" "I", Cond.fieldLink RX4 13 "LiveUpgrader$Step" "field" "I", Cond.fieldLink RX4 16 "LiveUpgrader$Step" "operand" "I", Cond.methodLink RX4 19 yX4_put, Cond.static yX4_put, Cond.code yX4_put cX4_put 4 (some .boolean)]
def wsX6_read_r5 : List Cond := [Cond.static yX6_isValue, Cond.code yX6_isValue cX6_isValue 2 (some .boolean), Cond.constantLong RX6 176 (-1000000), Cond.constantLong RX6 178 (1000000), Cond.methodLink RX6 142 yX3_pin, Cond.instanceMethod yX3_pin, Cond.selects RX3 yX3_pin yX3_pin, Cond.code yX3_pin cX3_pin 2 none, Cond.methodLink RX6 159 yX5_valueOf, Cond.instanceMethod yX5_valueOf, Cond.selects RX5 yX5_valueOf yX5_valueOf, Cond.code yX5_valueOf cX5_valueOf 2 (some .int)]
def wsX6_read : List Cond := .code yX6_read cX6_read 4 (some .int) :: ((wsX6_read_r1 ++ (wsX6_read_r2 ++ (wsX6_read_r3 ++ (wsX6_read_r4 ++ wsX6_read_r5)))) ++ wsX50 ++ wsX10 ++ wsX30 ++ wsX60 ++ wsX00 ++ wsX20 ++ wsX40)
def wsX6_write_r1 : List Cond := [Cond.constant RX6 28 (-2000007), Cond.methodLink RX6 67 yX6_isValue, Cond.static yX6_isValue, Cond.initialized RX6, Cond.code yX6_isValue cX6_isValue 2 (some .boolean), Cond.constantLong RX6 176 (-1000000), Cond.constantLong RX6 178 (1000000), Cond.methodLink RX6 146 yX6_access, Cond.instanceMethod yX6_access, Cond.selects RX6 yX6_access yX6_access, Cond.code yX6_access cX6_access 7 (some .int), Cond.constant RX6 104 (-2000003), Cond.constant RX6 119 (-2000006), Cond.constant RX6 156 (-2000004), Cond.constant RX6 188 (-2000011), Cond.constant RX6 81 (-2000005), Cond.constant RX6 189 (-2000012), Cond.constant RX6 190 (-2000013), Cond.constant RX6 191 (-2000014), Cond.methodLink RX6 100 yX6_stackOf, Cond.instanceMethod yX6_stackOf, Cond.selects RX6 yX6_stackOf yX6_stackOf, Cond.code yX6_stackOf cX6_stackOf 2 (some (.object "LiveUpgrader$CallStack")), Cond.fieldLink RX6 17 "LiveUpgrader" "stacks" "[LLiveUpgrader$CallStack;"]
def wsX6_write_r2 : List Cond := [Cond.methodLink RX6 132 yX0_top, Cond.instanceMethod yX0_top, Cond.selects RX0 yX0_top yX0_top, Cond.initialized RX0, Cond.code yX0_top cX0_top 1 (some (.object "LiveUpgrader$Frame")), Cond.fieldLink RX0 17 "LiveUpgrader$CallStack" "size" "I", Cond.methodLink RX0 26 yX0_frameAt, Cond.instanceMethod yX0_frameAt, Cond.selects RX0 yX0_frameAt yX0_frameAt, Cond.code yX0_frameAt cX0_frameAt 2 (some (.object "LiveUpgrader$Frame")), Cond.fieldLink RX0 11 "LiveUpgrader$CallStack" "frames" "[LLiveUpgrader$Frame;", Cond.methodLink RX6 149 yX6_existingObject, Cond.instanceMethod yX6_existingObject, Cond.selects RX6 yX6_existingObject yX6_existingObject, Cond.code yX6_existingObject cX6_existingObject 2 (some (.object "LiveUpgrader$StoredObject")), Cond.fieldLink RX6 136 "LiveUpgrader" "createdCount" "I", Cond.fieldLink RX6 24 "LiveUpgrader" "objects" "[LLiveUpgrader$StoredObject;", Cond.methodLink RX6 46 yX1_fieldSet, Cond.instanceMethod yX1_fieldSet, Cond.selects RX1 yX1_fieldSet yX1_fieldSet, Cond.initialized RX1, Cond.code yX1_fieldSet cX1_fieldSet 2 (some .int), Cond.fieldLink RX1 9 "LiveUpgrader$ClassHistory" "fieldSets" "[I", Cond.methodLink RX6 71 yX6_contains]
def wsX6_write_r3 : List Cond := [Cond.static yX6_contains, Cond.code yX6_contains cX6_contains 2 (some .boolean), Cond.methodLink RX6 63 yX6_isField, Cond.static yX6_isField, Cond.code yX6_isField cX6_isField 1 (some .boolean), Cond.methodLink RX6 165 yX6_smallestPin, Cond.instanceMethod yX6_smallestPin, Cond.selects RX6 yX6_smallestPin yX6_smallestPin, Cond.code yX6_smallestPin cX6_smallestPin 4 (some .int), Cond.methodLink RX6 182 Lib.Math.min.name, Cond.static Lib.Math.min.name, Cond.initialized "java/lang/Math", Cond.code Lib.Math.min.name Lib.Math.min.code 2 (some .int), Cond.methodLink RX6 181 yX0_smallestPin, Cond.instanceMethod yX0_smallestPin, Cond.selects RX0 yX0_smallestPin yX0_smallestPin, Cond.code yX0_smallestPin cX0_smallestPin 4 (some .int), Cond.methodLink RX0 46 Lib.Math.min.name, Cond.methodLink RX0 42 yX3_pins, Cond.instanceMethod yX3_pins, Cond.selects RX3 yX3_pins yX3_pins, Cond.initialized RX3, Cond.code yX3_pins cX3_pins 2 (some .boolean), Cond.fieldLink RX3 22 "LiveUpgrader$Frame" "pins" "I"]
def wsX6_write_r4 : List Cond := [Cond.methodLink RX6 173 yX5_convertTo, Cond.instanceMethod yX5_convertTo, Cond.selects RX5 yX5_convertTo yX5_convertTo, Cond.initialized RX5, Cond.code yX5_convertTo cX5_convertTo 3 (some .boolean), Cond.fieldLink RX5 24 "LiveUpgrader$StoredObject" "version" "I", Cond.fieldLink RX5 11 "LiveUpgrader$StoredObject" "rows" "[[I", Cond.methodLink RX5 27 arraycopyName, Cond.native arraycopyName, Cond.static arraycopyName, Cond.initialized "java/lang/System", Cond.fieldLink RX5 16 "LiveUpgrader$StoredObject" "history" "LLiveUpgrader$ClassHistory;", Cond.methodLink RX5 39 yX2_applyTo, Cond.instanceMethod yX2_applyTo, Cond.selects RX2 yX2_applyTo yX2_applyTo, Cond.initialized RX2, Cond.code yX2_applyTo cX2_applyTo 3 (some .boolean), Cond.fieldLink RX2 17 "LiveUpgrader$Converter" "length" "I", Cond.fieldLink RX2 11 "LiveUpgrader$Converter" "steps" "[LLiveUpgrader$Step;", Cond.methodLink RX2 26 yX4_applyTo, Cond.instanceMethod yX4_applyTo, Cond.selects RX4 yX4_applyTo yX4_applyTo, Cond.initialized RX4, Cond.code yX4_applyTo cX4_applyTo 2 (some .boolean)]
def wsX6_write_r5 : List Cond := [Cond.fieldLink RX4 7 "LiveUpgrader$Step" "kind" "I", Cond.fieldLink RX4 13 "LiveUpgrader$Step" "field" "I", Cond.fieldLink RX4 16 "LiveUpgrader$Step" "operand" "I", Cond.methodLink RX4 19 yX4_put, Cond.static yX4_put, Cond.code yX4_put cX4_put 4 (some .boolean), Cond.methodLink RX6 142 yX3_pin, Cond.instanceMethod yX3_pin, Cond.selects RX3 yX3_pin yX3_pin, Cond.code yX3_pin cX3_pin 2 none, Cond.methodLink RX6 159 yX5_valueOf, Cond.instanceMethod yX5_valueOf, Cond.selects RX5 yX5_valueOf yX5_valueOf, Cond.code yX5_valueOf cX5_valueOf 2 (some .int), Cond.methodLink RX6 153 yX5_putValue, Cond.instanceMethod yX5_putValue, Cond.selects RX5 yX5_putValue yX5_putValue, Cond.code yX5_putValue cX5_putValue 3 none]
def wsX6_write : List Cond := .code yX6_write cX6_write 7 (some .int) :: ((wsX6_write_r1 ++ (wsX6_write_r2 ++ (wsX6_write_r3 ++ (wsX6_write_r4 ++ wsX6_write_r5)))) ++ wsX50 ++ wsX10 ++ wsX30 ++ wsX60 ++ wsX00 ++ wsX20 ++ wsX40)
def wsX6_peek_r1 : List Cond := [Cond.constant RX6 156 (-2000004), Cond.constant RX6 81 (-2000005), Cond.methodLink RX6 149 yX6_existingObject, Cond.instanceMethod yX6_existingObject, Cond.selects RX6 yX6_existingObject yX6_existingObject, Cond.initialized RX6, Cond.code yX6_existingObject cX6_existingObject 2 (some (.object "LiveUpgrader$StoredObject")), Cond.fieldLink RX6 136 "LiveUpgrader" "createdCount" "I", Cond.fieldLink RX6 24 "LiveUpgrader" "objects" "[LLiveUpgrader$StoredObject;", Cond.methodLink RX6 46 yX1_fieldSet, Cond.instanceMethod yX1_fieldSet, Cond.selects RX1 yX1_fieldSet yX1_fieldSet, Cond.initialized RX1, Cond.code yX1_fieldSet cX1_fieldSet 2 (some .int), Cond.fieldLink RX1 9 "LiveUpgrader$ClassHistory" "fieldSets" "[I", Cond.methodLink RX6 71 yX6_contains, Cond.static yX6_contains, Cond.code yX6_contains cX6_contains 2 (some .boolean), Cond.methodLink RX6 63 yX6_isField, Cond.static yX6_isField, Cond.code yX6_isField cX6_isField 1 (some .boolean), Cond.methodLink RX6 159 yX5_valueOf, Cond.instanceMethod yX5_valueOf, Cond.selects RX5 yX5_valueOf yX5_valueOf]
def wsX6_peek_r2 : List Cond := [Cond.initialized RX5, Cond.code yX5_valueOf cX5_valueOf 2 (some .int), Cond.fieldLink RX5 11 "LiveUpgrader$StoredObject" "rows" "[[I", Cond.fieldLink RX5 24 "LiveUpgrader$StoredObject" "version" "I"]
def wsX6_peek : List Cond := .code yX6_peek cX6_peek 4 (some .int) :: ((wsX6_peek_r1 ++ wsX6_peek_r2) ++ wsX50 ++ wsX60 ++ wsX10)
def wsX6_objectVersion : List Cond := .code yX6_objectVersion cX6_objectVersion 3 (some .int) :: ([.constant RX6 156 (-2000004), .methodLink RX6 149 yX6_existingObject, .instanceMethod yX6_existingObject, .selects RX6 yX6_existingObject yX6_existingObject, .initialized RX6, .code yX6_existingObject cX6_existingObject 2 (some (.object "LiveUpgrader$StoredObject")), .fieldLink RX6 136 "LiveUpgrader" "createdCount" "I", .fieldLink RX6 24 "LiveUpgrader" "objects" "[LLiveUpgrader$StoredObject;"] ++ wsX50 ++ wsX60)
def wsX6_conversions : List Cond := .code yX6_conversions cX6_conversions 3 (some .int) :: ([.constant RX6 156 (-2000004), .methodLink RX6 149 yX6_existingObject, .instanceMethod yX6_existingObject, .selects RX6 yX6_existingObject yX6_existingObject, .initialized RX6, .code yX6_existingObject cX6_existingObject 2 (some (.object "LiveUpgrader$StoredObject")), .fieldLink RX6 136 "LiveUpgrader" "createdCount" "I", .fieldLink RX6 24 "LiveUpgrader" "objects" "[LLiveUpgrader$StoredObject;"] ++ wsX50 ++ wsX60)
def wsX6_pinnedBy_r1 : List Cond := [Cond.constant RX6 156 (-2000004), Cond.constant RX6 168 (-2000016), Cond.methodLink RX6 149 yX6_existingObject, Cond.instanceMethod yX6_existingObject, Cond.selects RX6 yX6_existingObject yX6_existingObject, Cond.initialized RX6, Cond.code yX6_existingObject cX6_existingObject 2 (some (.object "LiveUpgrader$StoredObject")), Cond.fieldLink RX6 136 "LiveUpgrader" "createdCount" "I", Cond.fieldLink RX6 24 "LiveUpgrader" "objects" "[LLiveUpgrader$StoredObject;", Cond.methodLink RX6 165 yX6_smallestPin, Cond.instanceMethod yX6_smallestPin, Cond.selects RX6 yX6_smallestPin yX6_smallestPin, Cond.code yX6_smallestPin cX6_smallestPin 4 (some .int), Cond.fieldLink RX6 17 "LiveUpgrader" "stacks" "[LLiveUpgrader$CallStack;", Cond.methodLink RX6 182 Lib.Math.min.name, Cond.static Lib.Math.min.name, Cond.initialized "java/lang/Math", Cond.code Lib.Math.min.name Lib.Math.min.code 2 (some .int), Cond.methodLink RX6 181 yX0_smallestPin, Cond.instanceMethod yX0_smallestPin, Cond.selects RX0 yX0_smallestPin yX0_smallestPin, Cond.initialized RX0, Cond.code yX0_smallestPin cX0_smallestPin 4 (some .int), Cond.fieldLink RX0 17 "LiveUpgrader$CallStack" "size" "I"]
def wsX6_pinnedBy_r2 : List Cond := [Cond.fieldLink RX0 11 "LiveUpgrader$CallStack" "frames" "[LLiveUpgrader$Frame;", Cond.methodLink RX0 46 Lib.Math.min.name, Cond.methodLink RX0 42 yX3_pins, Cond.instanceMethod yX3_pins, Cond.selects RX3 yX3_pins yX3_pins, Cond.initialized RX3, Cond.code yX3_pins cX3_pins 2 (some .boolean), Cond.fieldLink RX3 22 "LiveUpgrader$Frame" "pins" "I"]
def wsX6_pinnedBy : List Cond := .code yX6_pinnedBy cX6_pinnedBy 3 (some .int) :: ((wsX6_pinnedBy_r1 ++ wsX6_pinnedBy_r2) ++ wsX60 ++ wsX00 ++ wsX30)
def wsX6_outdatedObject : List Cond := .code yX6_outdatedObject cX6_outdatedObject 4 (some (.object "LiveUpgrader$StoredObject")) :: ([.methodLink RX6 149 yX6_existingObject, .instanceMethod yX6_existingObject, .selects RX6 yX6_existingObject yX6_existingObject, .initialized RX6, .code yX6_existingObject cX6_existingObject 2 (some (.object "LiveUpgrader$StoredObject")), .fieldLink RX6 136 "LiveUpgrader" "createdCount" "I", .fieldLink RX6 24 "LiveUpgrader" "objects" "[LLiveUpgrader$StoredObject;"] ++ wsX50 ++ wsX10 ++ wsX60)
def wsX6_outdated : List Cond := .code yX6_outdated cX6_outdated 5 (some .int) :: ([.constant RX6 41 (-2000001), .fieldLink RX6 136 "LiveUpgrader" "createdCount" "I", .methodLink RX6 37 yX6_historyOf, .instanceMethod yX6_historyOf, .selects RX6 yX6_historyOf yX6_historyOf, .initialized RX6, .code yX6_historyOf cX6_historyOf 2 (some (.object "LiveUpgrader$ClassHistory")), .fieldLink RX6 29 "LiveUpgrader" "classCount" "I", .fieldLink RX6 11 "LiveUpgrader" "histories" "[LLiveUpgrader$ClassHistory;", .methodLink RX6 169 yX6_outdatedObject, .instanceMethod yX6_outdatedObject, .selects RX6 yX6_outdatedObject yX6_outdatedObject, .code yX6_outdatedObject cX6_outdatedObject 4 (some (.object "LiveUpgrader$StoredObject")), .methodLink RX6 149 yX6_existingObject, .instanceMethod yX6_existingObject, .selects RX6 yX6_existingObject yX6_existingObject, .code yX6_existingObject cX6_existingObject 2 (some (.object "LiveUpgrader$StoredObject")), .fieldLink RX6 24 "LiveUpgrader" "objects" "[LLiveUpgrader$StoredObject;"] ++ wsX60 ++ wsX50 ++ wsX10)
def wsX6_convertAll_r1 : List Cond := [Cond.constant RX6 41 (-2000001), Cond.fieldLink RX6 136 "LiveUpgrader" "createdCount" "I", Cond.methodLink RX6 37 yX6_historyOf, Cond.instanceMethod yX6_historyOf, Cond.selects RX6 yX6_historyOf yX6_historyOf, Cond.initialized RX6, Cond.code yX6_historyOf cX6_historyOf 2 (some (.object "LiveUpgrader$ClassHistory")), Cond.fieldLink RX6 29 "LiveUpgrader" "classCount" "I", Cond.fieldLink RX6 11 "LiveUpgrader" "histories" "[LLiveUpgrader$ClassHistory;", Cond.methodLink RX6 169 yX6_outdatedObject, Cond.instanceMethod yX6_outdatedObject, Cond.selects RX6 yX6_outdatedObject yX6_outdatedObject, Cond.code yX6_outdatedObject cX6_outdatedObject 4 (some (.object "LiveUpgrader$StoredObject")), Cond.methodLink RX6 149 yX6_existingObject, Cond.instanceMethod yX6_existingObject, Cond.selects RX6 yX6_existingObject yX6_existingObject, Cond.code yX6_existingObject cX6_existingObject 2 (some (.object "LiveUpgrader$StoredObject")), Cond.fieldLink RX6 24 "LiveUpgrader" "objects" "[LLiveUpgrader$StoredObject;", Cond.methodLink RX6 165 yX6_smallestPin, Cond.instanceMethod yX6_smallestPin, Cond.selects RX6 yX6_smallestPin yX6_smallestPin, Cond.code yX6_smallestPin cX6_smallestPin 4 (some .int), Cond.fieldLink RX6 17 "LiveUpgrader" "stacks" "[LLiveUpgrader$CallStack;", Cond.methodLink RX6 182 Lib.Math.min.name]
def wsX6_convertAll_r2 : List Cond := [Cond.static Lib.Math.min.name, Cond.initialized "java/lang/Math", Cond.code Lib.Math.min.name Lib.Math.min.code 2 (some .int), Cond.methodLink RX6 181 yX0_smallestPin, Cond.instanceMethod yX0_smallestPin, Cond.selects RX0 yX0_smallestPin yX0_smallestPin, Cond.initialized RX0, Cond.code yX0_smallestPin cX0_smallestPin 4 (some .int), Cond.fieldLink RX0 17 "LiveUpgrader$CallStack" "size" "I", Cond.fieldLink RX0 11 "LiveUpgrader$CallStack" "frames" "[LLiveUpgrader$Frame;", Cond.methodLink RX0 46 Lib.Math.min.name, Cond.methodLink RX0 42 yX3_pins, Cond.instanceMethod yX3_pins, Cond.selects RX3 yX3_pins yX3_pins, Cond.initialized RX3, Cond.code yX3_pins cX3_pins 2 (some .boolean), Cond.fieldLink RX3 22 "LiveUpgrader$Frame" "pins" "I", Cond.methodLink RX6 173 yX5_convertTo, Cond.instanceMethod yX5_convertTo, Cond.selects RX5 yX5_convertTo yX5_convertTo, Cond.initialized RX5, Cond.code yX5_convertTo cX5_convertTo 3 (some .boolean), Cond.fieldLink RX5 24 "LiveUpgrader$StoredObject" "version" "I", Cond.fieldLink RX5 11 "LiveUpgrader$StoredObject" "rows" "[[I"]
def wsX6_convertAll_r3 : List Cond := [Cond.methodLink RX5 27 arraycopyName, Cond.native arraycopyName, Cond.static arraycopyName, Cond.initialized "java/lang/System", Cond.fieldLink RX5 16 "LiveUpgrader$StoredObject" "history" "LLiveUpgrader$ClassHistory;", Cond.methodLink RX5 39 yX2_applyTo, Cond.instanceMethod yX2_applyTo, Cond.selects RX2 yX2_applyTo yX2_applyTo, Cond.initialized RX2, Cond.code yX2_applyTo cX2_applyTo 3 (some .boolean), Cond.fieldLink RX2 17 "LiveUpgrader$Converter" "length" "I", Cond.fieldLink RX2 11 "LiveUpgrader$Converter" "steps" "[LLiveUpgrader$Step;", Cond.methodLink RX2 26 yX4_applyTo, Cond.instanceMethod yX4_applyTo, Cond.selects RX4 yX4_applyTo yX4_applyTo, Cond.initialized RX4, Cond.code yX4_applyTo cX4_applyTo 2 (some .boolean), Cond.fieldLink RX4 7 "LiveUpgrader$Step" "kind" "I", Cond.fieldLink RX4 13 "LiveUpgrader$Step" "field" "I", Cond.fieldLink RX4 16 "LiveUpgrader$Step" "operand" "I", Cond.methodLink RX4 19 yX4_put, Cond.static yX4_put, Cond.code yX4_put cX4_put 4 (some .boolean), Cond.static yX6_isField]
def wsX6_convertAll_r4 : List Cond := [Cond.code yX6_isField cX6_isField 1 (some .boolean), Cond.static yX6_isValue, Cond.code yX6_isValue cX6_isValue 2 (some .boolean), Cond.constantLong RX6 176 (-1000000), Cond.constantLong RX6 178 (1000000)]
def wsX6_convertAll : List Cond := .code yX6_convertAll cX6_convertAll 6 (some .int) :: ((wsX6_convertAll_r1 ++ (wsX6_convertAll_r2 ++ (wsX6_convertAll_r3 ++ wsX6_convertAll_r4))) ++ wsX60 ++ wsX10 ++ wsX50 ++ wsX00 ++ wsX30 ++ wsX20 ++ wsX40)
def wsX7_init : List Cond := .code yX7_init cX7_init 1 none :: ([.methodLink RX7 1 objectInit, .instanceMethod objectInit, .code objectInit ⟨#[0xb1]⟩ 1 none, .arrayClass .int, .fieldLink RX7 7 "LiveUpgraderModel" "classAt" "[I", .fieldLink RX7 13 "LiveUpgraderModel" "depths" "[I", .fieldLink RX7 16 "LiveUpgraderModel" "frameClass" "[I", .fieldLink RX7 19 "LiveUpgraderModel" "frameVersion" "[I", .fieldLink RX7 22 "LiveUpgraderModel" "pins" "[I", .arrayClass .boolean, .fieldLink RX7 25 "LiveUpgraderModel" "exists" "[Z", .fieldLink RX7 29 "LiveUpgraderModel" "classOf" "[I", .fieldLink RX7 32 "LiveUpgraderModel" "versionOf" "[I", .fieldLink RX7 35 "LiveUpgraderModel" "createdWith" "[I", .fieldLink RX7 38 "LiveUpgraderModel" "values" "[I"] ++ wsX70)
def wsX7_in : List Cond := .code yX7_in cX7_in 3 (some .boolean) :: ([])
def wsX7_isClass : List Cond := .code yX7_isClass cX7_isClass 2 (some .boolean) :: ([.fieldLink RX7 41 "LiveUpgraderModel" "classes" "I", .methodLink RX7 45 yX7_in, .static yX7_in, .initialized RX7, .code yX7_in cX7_in 3 (some .boolean)] ++ wsX70)
def wsX7_at : List Cond := .code yX7_at cX7_at 2 (some .int) :: ([])
def wsX7_of : List Cond := .code yX7_of cX7_of 3 (some .int) :: ([.fieldLink RX7 7 "LiveUpgraderModel" "classAt" "[I", .methodLink RX7 49 yX7_at, .static yX7_at, .initialized RX7, .code yX7_at cX7_at 2 (some .int)] ++ wsX70)
def wsX7_current : List Cond := .code yX7_current cX7_current 2 (some .int) :: ([.methodLink RX7 53 yX7_of, .instanceMethod yX7_of, .selects RX7 yX7_of yX7_of, .initialized RX7, .code yX7_of cX7_of 3 (some .int), .fieldLink RX7 7 "LiveUpgraderModel" "classAt" "[I", .methodLink RX7 49 yX7_at, .static yX7_at, .code yX7_at cX7_at 2 (some .int)] ++ wsX70)
def wsX7_addClass : List Cond := .code yX7_addClass cX7_addClass 2 (some .int) :: ([.constant RX7 56 (-2000007), .fieldLink RX7 41 "LiveUpgraderModel" "classes" "I", .constant RX7 57 (-2000010), .fieldLink RX7 7 "LiveUpgraderModel" "classAt" "[I", .methodLink RX7 45 yX7_in, .static yX7_in, .initialized RX7, .code yX7_in cX7_in 3 (some .boolean), .methodLink RX7 49 yX7_at, .static yX7_at, .code yX7_at cX7_at 2 (some .int)] ++ wsX70)
def wsX7_currentVersion : List Cond := .code yX7_currentVersion cX7_currentVersion 2 (some .int) :: ([.constant RX7 66 (-2000001), .methodLink RX7 58 yX7_isClass, .instanceMethod yX7_isClass, .selects RX7 yX7_isClass yX7_isClass, .initialized RX7, .code yX7_isClass cX7_isClass 2 (some .boolean), .fieldLink RX7 41 "LiveUpgraderModel" "classes" "I", .methodLink RX7 45 yX7_in, .static yX7_in, .code yX7_in cX7_in 3 (some .boolean), .methodLink RX7 62 yX7_current, .instanceMethod yX7_current, .selects RX7 yX7_current yX7_current, .code yX7_current cX7_current 2 (some .int), .methodLink RX7 53 yX7_of, .instanceMethod yX7_of, .selects RX7 yX7_of yX7_of, .code yX7_of cX7_of 3 (some .int), .fieldLink RX7 7 "LiveUpgraderModel" "classAt" "[I", .methodLink RX7 49 yX7_at, .static yX7_at, .code yX7_at cX7_at 2 (some .int)] ++ wsX70)
def wsX7_fields : List Cond := .code yX7_fields cX7_fields 3 (some .int) :: ([.constant RX7 66 (-2000001), .constant RX7 67 (-2000002), .methodLink RX7 58 yX7_isClass, .instanceMethod yX7_isClass, .selects RX7 yX7_isClass yX7_isClass, .initialized RX7, .code yX7_isClass cX7_isClass 2 (some .boolean), .fieldLink RX7 41 "LiveUpgraderModel" "classes" "I", .methodLink RX7 45 yX7_in, .static yX7_in, .code yX7_in cX7_in 3 (some .boolean), .methodLink RX7 62 yX7_current, .instanceMethod yX7_current, .selects RX7 yX7_current yX7_current, .code yX7_current cX7_current 2 (some .int), .methodLink RX7 53 yX7_of, .instanceMethod yX7_of, .selects RX7 yX7_of yX7_of, .code yX7_of cX7_of 3 (some .int), .fieldLink RX7 7 "LiveUpgraderModel" "classAt" "[I", .methodLink RX7 49 yX7_at, .static yX7_at, .code yX7_at cX7_at 2 (some .int)] ++ wsX70)
def wsX7_stage : List Cond := .code yX7_stage cX7_stage 3 (some .int) :: ([.constant RX7 66 (-2000001), .constant RX7 68 (-2000009), .constant RX7 57 (-2000010), .fieldLink RX7 7 "LiveUpgraderModel" "classAt" "[I", .methodLink RX7 58 yX7_isClass, .instanceMethod yX7_isClass, .selects RX7 yX7_isClass yX7_isClass, .initialized RX7, .code yX7_isClass cX7_isClass 2 (some .boolean), .fieldLink RX7 41 "LiveUpgraderModel" "classes" "I", .methodLink RX7 45 yX7_in, .static yX7_in, .code yX7_in cX7_in 3 (some .boolean), .methodLink RX7 53 yX7_of, .instanceMethod yX7_of, .selects RX7 yX7_of yX7_of, .code yX7_of cX7_of 3 (some .int), .methodLink RX7 49 yX7_at, .static yX7_at, .code yX7_at cX7_at 2 (some .int)] ++ wsX70)
def wsX7_wrongStage : List Cond := .code yX7_wrongStage cX7_wrongStage 2 (some .int) :: ([.constant RX7 66 (-2000001), .constant RX7 69 (-2000008), .methodLink RX7 58 yX7_isClass, .instanceMethod yX7_isClass, .selects RX7 yX7_isClass yX7_isClass, .initialized RX7, .code yX7_isClass cX7_isClass 2 (some .boolean), .fieldLink RX7 41 "LiveUpgraderModel" "classes" "I", .methodLink RX7 45 yX7_in, .static yX7_in, .code yX7_in cX7_in 3 (some .boolean), .methodLink RX7 53 yX7_of, .instanceMethod yX7_of, .selects RX7 yX7_of yX7_of, .code yX7_of cX7_of 3 (some .int), .fieldLink RX7 7 "LiveUpgraderModel" "classAt" "[I", .methodLink RX7 49 yX7_at, .static yX7_at, .code yX7_at cX7_at 2 (some .int)] ++ wsX70)
def wsX7_stagedNow : List Cond := .code yX7_stagedNow cX7_stagedNow 2 (some .int) :: ([.methodLink RX7 53 yX7_of, .instanceMethod yX7_of, .selects RX7 yX7_of yX7_of, .initialized RX7, .code yX7_of cX7_of 3 (some .int), .fieldLink RX7 7 "LiveUpgraderModel" "classAt" "[I", .methodLink RX7 49 yX7_at, .static yX7_at, .code yX7_at cX7_at 2 (some .int)] ++ wsX70)
def wsX7_has : List Cond := .code yX7_has cX7_has 2 (some .boolean) :: ([.methodLink RX7 45 yX7_in, .static yX7_in, .initialized RX7, .code yX7_in cX7_in 3 (some .boolean)])
def wsX7_stagedFields_r1 : List Cond := [Cond.methodLink RX7 70 yX7_wrongStage, Cond.instanceMethod yX7_wrongStage, Cond.selects RX7 yX7_wrongStage yX7_wrongStage, Cond.initialized RX7, Cond.code yX7_wrongStage cX7_wrongStage 2 (some .int), Cond.constant RX7 66 (-2000001), Cond.constant RX7 69 (-2000008), Cond.methodLink RX7 58 yX7_isClass, Cond.instanceMethod yX7_isClass, Cond.selects RX7 yX7_isClass yX7_isClass, Cond.code yX7_isClass cX7_isClass 2 (some .boolean), Cond.fieldLink RX7 41 "LiveUpgraderModel" "classes" "I", Cond.methodLink RX7 45 yX7_in, Cond.static yX7_in, Cond.code yX7_in cX7_in 3 (some .boolean), Cond.methodLink RX7 53 yX7_of, Cond.instanceMethod yX7_of, Cond.selects RX7 yX7_of yX7_of, Cond.code yX7_of cX7_of 3 (some .int), Cond.fieldLink RX7 7 "LiveUpgraderModel" "classAt" "[I", Cond.methodLink RX7 49 yX7_at, Cond.static yX7_at, Cond.code yX7_at cX7_at 2 (some .int), Cond.methodLink RX7 73 yX7_stagedNow]
def wsX7_stagedFields_r2 : List Cond := [Cond.instanceMethod yX7_stagedNow, Cond.selects RX7 yX7_stagedNow yX7_stagedNow, Cond.code yX7_stagedNow cX7_stagedNow 2 (some .int)]
def wsX7_stagedFields : List Cond := .code yX7_stagedFields cX7_stagedFields 3 (some .int) :: ((wsX7_stagedFields_r1 ++ wsX7_stagedFields_r2) ++ wsX70)
def wsX7_append : List Cond := .code yX7_append cX7_append 9 (some .int) :: ([.constant RX7 57 (-2000010), .fieldLink RX7 7 "LiveUpgraderModel" "classAt" "[I", .methodLink RX7 53 yX7_of, .instanceMethod yX7_of, .selects RX7 yX7_of yX7_of, .initialized RX7, .code yX7_of cX7_of 3 (some .int), .methodLink RX7 49 yX7_at, .static yX7_at, .code yX7_at cX7_at 2 (some .int)] ++ wsX70)
def wsX7_addField_r1 : List Cond := [Cond.constant RX7 76 (-1000000), Cond.constant RX7 77 (1000000), Cond.constant RX7 56 (-2000007), Cond.constant RX7 68 (-2000009), Cond.methodLink RX7 70 yX7_wrongStage, Cond.instanceMethod yX7_wrongStage, Cond.selects RX7 yX7_wrongStage yX7_wrongStage, Cond.initialized RX7, Cond.code yX7_wrongStage cX7_wrongStage 2 (some .int), Cond.constant RX7 66 (-2000001), Cond.constant RX7 69 (-2000008), Cond.methodLink RX7 58 yX7_isClass, Cond.instanceMethod yX7_isClass, Cond.selects RX7 yX7_isClass yX7_isClass, Cond.code yX7_isClass cX7_isClass 2 (some .boolean), Cond.fieldLink RX7 41 "LiveUpgraderModel" "classes" "I", Cond.methodLink RX7 45 yX7_in, Cond.static yX7_in, Cond.code yX7_in cX7_in 3 (some .boolean), Cond.methodLink RX7 53 yX7_of, Cond.instanceMethod yX7_of, Cond.selects RX7 yX7_of yX7_of, Cond.code yX7_of cX7_of 3 (some .int), Cond.fieldLink RX7 7 "LiveUpgraderModel" "classAt" "[I"]
def wsX7_addField_r2 : List Cond := [Cond.methodLink RX7 49 yX7_at, Cond.static yX7_at, Cond.code yX7_at cX7_at 2 (some .int), Cond.methodLink RX7 73 yX7_stagedNow, Cond.instanceMethod yX7_stagedNow, Cond.selects RX7 yX7_stagedNow yX7_stagedNow, Cond.code yX7_stagedNow cX7_stagedNow 2 (some .int), Cond.methodLink RX7 78 yX7_has, Cond.static yX7_has, Cond.code yX7_has cX7_has 2 (some .boolean), Cond.methodLink RX7 82 yX7_append, Cond.instanceMethod yX7_append, Cond.selects RX7 yX7_append yX7_append, Cond.code yX7_append cX7_append 9 (some .int), Cond.constant RX7 57 (-2000010)]
def wsX7_addField : List Cond := .code yX7_addField cX7_addField 6 (some .int) :: ((wsX7_addField_r1 ++ wsX7_addField_r2) ++ wsX70)
def wsX7_dropField_r1 : List Cond := [Cond.constant RX7 86 (-2000005), Cond.methodLink RX7 70 yX7_wrongStage, Cond.instanceMethod yX7_wrongStage, Cond.selects RX7 yX7_wrongStage yX7_wrongStage, Cond.initialized RX7, Cond.code yX7_wrongStage cX7_wrongStage 2 (some .int), Cond.constant RX7 66 (-2000001), Cond.constant RX7 69 (-2000008), Cond.methodLink RX7 58 yX7_isClass, Cond.instanceMethod yX7_isClass, Cond.selects RX7 yX7_isClass yX7_isClass, Cond.code yX7_isClass cX7_isClass 2 (some .boolean), Cond.fieldLink RX7 41 "LiveUpgraderModel" "classes" "I", Cond.methodLink RX7 45 yX7_in, Cond.static yX7_in, Cond.code yX7_in cX7_in 3 (some .boolean), Cond.methodLink RX7 53 yX7_of, Cond.instanceMethod yX7_of, Cond.selects RX7 yX7_of yX7_of, Cond.code yX7_of cX7_of 3 (some .int), Cond.fieldLink RX7 7 "LiveUpgraderModel" "classAt" "[I", Cond.methodLink RX7 49 yX7_at, Cond.static yX7_at, Cond.code yX7_at cX7_at 2 (some .int)]
def wsX7_dropField_r2 : List Cond := [Cond.methodLink RX7 73 yX7_stagedNow, Cond.instanceMethod yX7_stagedNow, Cond.selects RX7 yX7_stagedNow yX7_stagedNow, Cond.code yX7_stagedNow cX7_stagedNow 2 (some .int), Cond.methodLink RX7 78 yX7_has, Cond.static yX7_has, Cond.code yX7_has cX7_has 2 (some .boolean), Cond.methodLink RX7 82 yX7_append, Cond.instanceMethod yX7_append, Cond.selects RX7 yX7_append yX7_append, Cond.code yX7_append cX7_append 9 (some .int), Cond.constant RX7 57 (-2000010)]
def wsX7_dropField : List Cond := .code yX7_dropField cX7_dropField 5 (some .int) :: ((wsX7_dropField_r1 ++ wsX7_dropField_r2) ++ wsX70)
def wsX7_renameField_r1 : List Cond := [Cond.constant RX7 86 (-2000005), Cond.constant RX7 56 (-2000007), Cond.constant RX7 68 (-2000009), Cond.methodLink RX7 70 yX7_wrongStage, Cond.instanceMethod yX7_wrongStage, Cond.selects RX7 yX7_wrongStage yX7_wrongStage, Cond.initialized RX7, Cond.code yX7_wrongStage cX7_wrongStage 2 (some .int), Cond.constant RX7 66 (-2000001), Cond.constant RX7 69 (-2000008), Cond.methodLink RX7 58 yX7_isClass, Cond.instanceMethod yX7_isClass, Cond.selects RX7 yX7_isClass yX7_isClass, Cond.code yX7_isClass cX7_isClass 2 (some .boolean), Cond.fieldLink RX7 41 "LiveUpgraderModel" "classes" "I", Cond.methodLink RX7 45 yX7_in, Cond.static yX7_in, Cond.code yX7_in cX7_in 3 (some .boolean), Cond.methodLink RX7 53 yX7_of, Cond.instanceMethod yX7_of, Cond.selects RX7 yX7_of yX7_of, Cond.code yX7_of cX7_of 3 (some .int), Cond.fieldLink RX7 7 "LiveUpgraderModel" "classAt" "[I", Cond.methodLink RX7 49 yX7_at]
def wsX7_renameField_r2 : List Cond := [Cond.static yX7_at, Cond.code yX7_at cX7_at 2 (some .int), Cond.methodLink RX7 73 yX7_stagedNow, Cond.instanceMethod yX7_stagedNow, Cond.selects RX7 yX7_stagedNow yX7_stagedNow, Cond.code yX7_stagedNow cX7_stagedNow 2 (some .int), Cond.methodLink RX7 78 yX7_has, Cond.static yX7_has, Cond.code yX7_has cX7_has 2 (some .boolean), Cond.methodLink RX7 82 yX7_append, Cond.instanceMethod yX7_append, Cond.selects RX7 yX7_append yX7_append, Cond.code yX7_append cX7_append 9 (some .int), Cond.constant RX7 57 (-2000010)]
def wsX7_renameField : List Cond := .code yX7_renameField cX7_renameField 6 (some .int) :: ((wsX7_renameField_r1 ++ wsX7_renameField_r2) ++ wsX70)
def wsX7_scaleField_r1 : List Cond := [Cond.constant RX7 86 (-2000005), Cond.constant RX7 87 (-100000), Cond.constant RX7 88 (100000), Cond.constant RX7 56 (-2000007), Cond.methodLink RX7 70 yX7_wrongStage, Cond.instanceMethod yX7_wrongStage, Cond.selects RX7 yX7_wrongStage yX7_wrongStage, Cond.initialized RX7, Cond.code yX7_wrongStage cX7_wrongStage 2 (some .int), Cond.constant RX7 66 (-2000001), Cond.constant RX7 69 (-2000008), Cond.methodLink RX7 58 yX7_isClass, Cond.instanceMethod yX7_isClass, Cond.selects RX7 yX7_isClass yX7_isClass, Cond.code yX7_isClass cX7_isClass 2 (some .boolean), Cond.fieldLink RX7 41 "LiveUpgraderModel" "classes" "I", Cond.methodLink RX7 45 yX7_in, Cond.static yX7_in, Cond.code yX7_in cX7_in 3 (some .boolean), Cond.methodLink RX7 53 yX7_of, Cond.instanceMethod yX7_of, Cond.selects RX7 yX7_of yX7_of, Cond.code yX7_of cX7_of 3 (some .int), Cond.fieldLink RX7 7 "LiveUpgraderModel" "classAt" "[I"]
def wsX7_scaleField_r2 : List Cond := [Cond.methodLink RX7 49 yX7_at, Cond.static yX7_at, Cond.code yX7_at cX7_at 2 (some .int), Cond.methodLink RX7 73 yX7_stagedNow, Cond.instanceMethod yX7_stagedNow, Cond.selects RX7 yX7_stagedNow yX7_stagedNow, Cond.code yX7_stagedNow cX7_stagedNow 2 (some .int), Cond.methodLink RX7 78 yX7_has, Cond.static yX7_has, Cond.code yX7_has cX7_has 2 (some .boolean), Cond.methodLink RX7 82 yX7_append, Cond.instanceMethod yX7_append, Cond.selects RX7 yX7_append yX7_append, Cond.code yX7_append cX7_append 9 (some .int), Cond.constant RX7 57 (-2000010)]
def wsX7_scaleField : List Cond := .code yX7_scaleField cX7_scaleField 6 (some .int) :: ((wsX7_scaleField_r1 ++ wsX7_scaleField_r2) ++ wsX70)
def wsX7_mergeField_r1 : List Cond := [Cond.constant RX7 86 (-2000005), Cond.constant RX7 56 (-2000007), Cond.methodLink RX7 70 yX7_wrongStage, Cond.instanceMethod yX7_wrongStage, Cond.selects RX7 yX7_wrongStage yX7_wrongStage, Cond.initialized RX7, Cond.code yX7_wrongStage cX7_wrongStage 2 (some .int), Cond.constant RX7 66 (-2000001), Cond.constant RX7 69 (-2000008), Cond.methodLink RX7 58 yX7_isClass, Cond.instanceMethod yX7_isClass, Cond.selects RX7 yX7_isClass yX7_isClass, Cond.code yX7_isClass cX7_isClass 2 (some .boolean), Cond.fieldLink RX7 41 "LiveUpgraderModel" "classes" "I", Cond.methodLink RX7 45 yX7_in, Cond.static yX7_in, Cond.code yX7_in cX7_in 3 (some .boolean), Cond.methodLink RX7 53 yX7_of, Cond.instanceMethod yX7_of, Cond.selects RX7 yX7_of yX7_of, Cond.code yX7_of cX7_of 3 (some .int), Cond.fieldLink RX7 7 "LiveUpgraderModel" "classAt" "[I", Cond.methodLink RX7 49 yX7_at, Cond.static yX7_at]
def wsX7_mergeField_r2 : List Cond := [Cond.code yX7_at cX7_at 2 (some .int), Cond.methodLink RX7 73 yX7_stagedNow, Cond.instanceMethod yX7_stagedNow, Cond.selects RX7 yX7_stagedNow yX7_stagedNow, Cond.code yX7_stagedNow cX7_stagedNow 2 (some .int), Cond.methodLink RX7 78 yX7_has, Cond.static yX7_has, Cond.code yX7_has cX7_has 2 (some .boolean), Cond.methodLink RX7 82 yX7_append, Cond.instanceMethod yX7_append, Cond.selects RX7 yX7_append yX7_append, Cond.code yX7_append cX7_append 9 (some .int), Cond.constant RX7 57 (-2000010)]
def wsX7_mergeField : List Cond := .code yX7_mergeField cX7_mergeField 6 (some .int) :: ((wsX7_mergeField_r1 ++ wsX7_mergeField_r2) ++ wsX70)
def wsX7_activate_r1 : List Cond := [Cond.fieldLink RX7 7 "LiveUpgraderModel" "classAt" "[I", Cond.methodLink RX7 70 yX7_wrongStage, Cond.instanceMethod yX7_wrongStage, Cond.selects RX7 yX7_wrongStage yX7_wrongStage, Cond.initialized RX7, Cond.code yX7_wrongStage cX7_wrongStage 2 (some .int), Cond.constant RX7 66 (-2000001), Cond.constant RX7 69 (-2000008), Cond.methodLink RX7 58 yX7_isClass, Cond.instanceMethod yX7_isClass, Cond.selects RX7 yX7_isClass yX7_isClass, Cond.code yX7_isClass cX7_isClass 2 (some .boolean), Cond.fieldLink RX7 41 "LiveUpgraderModel" "classes" "I", Cond.methodLink RX7 45 yX7_in, Cond.static yX7_in, Cond.code yX7_in cX7_in 3 (some .boolean), Cond.methodLink RX7 53 yX7_of, Cond.instanceMethod yX7_of, Cond.selects RX7 yX7_of yX7_of, Cond.code yX7_of cX7_of 3 (some .int), Cond.methodLink RX7 49 yX7_at, Cond.static yX7_at, Cond.code yX7_at cX7_at 2 (some .int), Cond.methodLink RX7 62 yX7_current]
def wsX7_activate_r2 : List Cond := [Cond.instanceMethod yX7_current, Cond.selects RX7 yX7_current yX7_current, Cond.code yX7_current cX7_current 2 (some .int)]
def wsX7_activate : List Cond := .code yX7_activate cX7_activate 3 (some .int) :: ((wsX7_activate_r1 ++ wsX7_activate_r2) ++ wsX70)
def wsX7_discard : List Cond := .code yX7_discard cX7_discard 3 (some .int) :: ([.fieldLink RX7 7 "LiveUpgraderModel" "classAt" "[I", .methodLink RX7 70 yX7_wrongStage, .instanceMethod yX7_wrongStage, .selects RX7 yX7_wrongStage yX7_wrongStage, .initialized RX7, .code yX7_wrongStage cX7_wrongStage 2 (some .int), .constant RX7 66 (-2000001), .constant RX7 69 (-2000008), .methodLink RX7 58 yX7_isClass, .instanceMethod yX7_isClass, .selects RX7 yX7_isClass yX7_isClass, .code yX7_isClass cX7_isClass 2 (some .boolean), .fieldLink RX7 41 "LiveUpgraderModel" "classes" "I", .methodLink RX7 45 yX7_in, .static yX7_in, .code yX7_in cX7_in 3 (some .boolean), .methodLink RX7 53 yX7_of, .instanceMethod yX7_of, .selects RX7 yX7_of yX7_of, .code yX7_of cX7_of 3 (some .int), .methodLink RX7 49 yX7_at, .static yX7_at, .code yX7_at cX7_at 2 (some .int)] ++ wsX70)
def wsX7_isThere : List Cond := .code yX7_isThere cX7_isThere 2 (some .boolean) :: ([.fieldLink RX7 13 "LiveUpgraderModel" "depths" "[I"] ++ wsX70)
def wsX7_runs : List Cond := .code yX7_runs cX7_runs 5 (some .boolean) :: ([.fieldLink RX7 16 "LiveUpgraderModel" "frameClass" "[I", .fieldLink RX7 19 "LiveUpgraderModel" "frameVersion" "[I", .methodLink RX7 89 yX7_isThere, .instanceMethod yX7_isThere, .selects RX7 yX7_isThere yX7_isThere, .initialized RX7, .code yX7_isThere cX7_isThere 2 (some .boolean), .fieldLink RX7 13 "LiveUpgraderModel" "depths" "[I"] ++ wsX70)
def wsX7_delete : List Cond := .code yX7_delete cX7_delete 3 none :: ([.fieldLink RX7 25 "LiveUpgraderModel" "exists" "[Z", .fieldLink RX7 22 "LiveUpgraderModel" "pins" "[I"] ++ wsX70)
def wsX7_rollback_r1 : List Cond := [Cond.constant RX7 66 (-2000001), Cond.constant RX7 67 (-2000002), Cond.constant RX7 95 (-2000015), Cond.fieldLink RX7 96 "LiveUpgraderModel" "created" "I", Cond.fieldLink RX7 25 "LiveUpgraderModel" "exists" "[Z", Cond.fieldLink RX7 29 "LiveUpgraderModel" "classOf" "[I", Cond.fieldLink RX7 32 "LiveUpgraderModel" "versionOf" "[I", Cond.fieldLink RX7 35 "LiveUpgraderModel" "createdWith" "[I", Cond.fieldLink RX7 7 "LiveUpgraderModel" "classAt" "[I", Cond.methodLink RX7 58 yX7_isClass, Cond.instanceMethod yX7_isClass, Cond.selects RX7 yX7_isClass yX7_isClass, Cond.initialized RX7, Cond.code yX7_isClass cX7_isClass 2 (some .boolean), Cond.fieldLink RX7 41 "LiveUpgraderModel" "classes" "I", Cond.methodLink RX7 45 yX7_in, Cond.static yX7_in, Cond.code yX7_in cX7_in 3 (some .boolean), Cond.methodLink RX7 62 yX7_current, Cond.instanceMethod yX7_current, Cond.selects RX7 yX7_current yX7_current, Cond.code yX7_current cX7_current 2 (some .int), Cond.methodLink RX7 53 yX7_of, Cond.instanceMethod yX7_of]
def wsX7_rollback_r2 : List Cond := [Cond.selects RX7 yX7_of yX7_of, Cond.code yX7_of cX7_of 3 (some .int), Cond.methodLink RX7 49 yX7_at, Cond.static yX7_at, Cond.code yX7_at cX7_at 2 (some .int), Cond.methodLink RX7 92 yX7_runs, Cond.instanceMethod yX7_runs, Cond.selects RX7 yX7_runs yX7_runs, Cond.code yX7_runs cX7_runs 5 (some .boolean), Cond.fieldLink RX7 16 "LiveUpgraderModel" "frameClass" "[I", Cond.fieldLink RX7 19 "LiveUpgraderModel" "frameVersion" "[I", Cond.methodLink RX7 89 yX7_isThere, Cond.instanceMethod yX7_isThere, Cond.selects RX7 yX7_isThere yX7_isThere, Cond.code yX7_isThere cX7_isThere 2 (some .boolean), Cond.fieldLink RX7 13 "LiveUpgraderModel" "depths" "[I", Cond.methodLink RX7 99 yX7_delete, Cond.instanceMethod yX7_delete, Cond.selects RX7 yX7_delete yX7_delete, Cond.code yX7_delete cX7_delete 3 none, Cond.fieldLink RX7 22 "LiveUpgraderModel" "pins" "[I"]
def wsX7_rollback : List Cond := .code yX7_rollback cX7_rollback 4 (some .int) :: ((wsX7_rollback_r1 ++ wsX7_rollback_r2) ++ wsX70)
def wsX7_isThread : List Cond := .code yX7_isThread cX7_isThread 1 (some .boolean) :: ([.methodLink RX7 45 yX7_in, .static yX7_in, .initialized RX7, .code yX7_in cX7_in 3 (some .boolean)])
def wsX7_call_r1 : List Cond := [Cond.constant RX7 106 (-2000003), Cond.constant RX7 66 (-2000001), Cond.fieldLink RX7 13 "LiveUpgraderModel" "depths" "[I", Cond.constant RX7 57 (-2000010), Cond.fieldLink RX7 16 "LiveUpgraderModel" "frameClass" "[I", Cond.fieldLink RX7 19 "LiveUpgraderModel" "frameVersion" "[I", Cond.fieldLink RX7 22 "LiveUpgraderModel" "pins" "[I", Cond.methodLink RX7 103 yX7_isThread, Cond.static yX7_isThread, Cond.initialized RX7, Cond.code yX7_isThread cX7_isThread 1 (some .boolean), Cond.methodLink RX7 45 yX7_in, Cond.static yX7_in, Cond.code yX7_in cX7_in 3 (some .boolean), Cond.methodLink RX7 58 yX7_isClass, Cond.instanceMethod yX7_isClass, Cond.selects RX7 yX7_isClass yX7_isClass, Cond.code yX7_isClass cX7_isClass 2 (some .boolean), Cond.fieldLink RX7 41 "LiveUpgraderModel" "classes" "I", Cond.methodLink RX7 62 yX7_current, Cond.instanceMethod yX7_current, Cond.selects RX7 yX7_current yX7_current, Cond.code yX7_current cX7_current 2 (some .int), Cond.methodLink RX7 53 yX7_of]
def wsX7_call_r2 : List Cond := [Cond.instanceMethod yX7_of, Cond.selects RX7 yX7_of yX7_of, Cond.code yX7_of cX7_of 3 (some .int), Cond.fieldLink RX7 7 "LiveUpgraderModel" "classAt" "[I", Cond.methodLink RX7 49 yX7_at, Cond.static yX7_at, Cond.code yX7_at cX7_at 2 (some .int)]
def wsX7_call : List Cond := .code yX7_call cX7_call 4 (some .int) :: ((wsX7_call_r1 ++ wsX7_call_r2) ++ wsX70)
def wsX7_finish : List Cond := .code yX7_finish cX7_finish 2 (some .int) :: ([.constant RX7 106 (-2000003), .fieldLink RX7 13 "LiveUpgraderModel" "depths" "[I", .constant RX7 107 (-2000006), .methodLink RX7 103 yX7_isThread, .static yX7_isThread, .initialized RX7, .code yX7_isThread cX7_isThread 1 (some .boolean), .methodLink RX7 45 yX7_in, .static yX7_in, .code yX7_in cX7_in 3 (some .boolean)] ++ wsX70)
def wsX7_depth : List Cond := .code yX7_depth cX7_depth 2 (some .int) :: ([.fieldLink RX7 13 "LiveUpgraderModel" "depths" "[I", .constant RX7 106 (-2000003), .methodLink RX7 103 yX7_isThread, .static yX7_isThread, .initialized RX7, .code yX7_isThread cX7_isThread 1 (some .boolean), .methodLink RX7 45 yX7_in, .static yX7_in, .code yX7_in cX7_in 3 (some .boolean)] ++ wsX70)
def wsX7_frameClass : List Cond := .code yX7_frameClass cX7_frameClass 3 (some .int) :: ([.constant RX7 106 (-2000003), .fieldLink RX7 13 "LiveUpgraderModel" "depths" "[I", .fieldLink RX7 16 "LiveUpgraderModel" "frameClass" "[I", .constant RX7 107 (-2000006), .methodLink RX7 103 yX7_isThread, .static yX7_isThread, .initialized RX7, .code yX7_isThread cX7_isThread 1 (some .boolean), .methodLink RX7 45 yX7_in, .static yX7_in, .code yX7_in cX7_in 3 (some .boolean)] ++ wsX70)
def wsX7_frameVersion : List Cond := .code yX7_frameVersion cX7_frameVersion 3 (some .int) :: ([.constant RX7 106 (-2000003), .fieldLink RX7 13 "LiveUpgraderModel" "depths" "[I", .fieldLink RX7 19 "LiveUpgraderModel" "frameVersion" "[I", .constant RX7 107 (-2000006), .methodLink RX7 103 yX7_isThread, .static yX7_isThread, .initialized RX7, .code yX7_isThread cX7_isThread 1 (some .boolean), .methodLink RX7 45 yX7_in, .static yX7_in, .code yX7_in cX7_in 3 (some .boolean)] ++ wsX70)
def wsX7_oldFrames_r1 : List Cond := [Cond.constant RX7 66 (-2000001), Cond.fieldLink RX7 16 "LiveUpgraderModel" "frameClass" "[I", Cond.fieldLink RX7 19 "LiveUpgraderModel" "frameVersion" "[I", Cond.methodLink RX7 58 yX7_isClass, Cond.instanceMethod yX7_isClass, Cond.selects RX7 yX7_isClass yX7_isClass, Cond.initialized RX7, Cond.code yX7_isClass cX7_isClass 2 (some .boolean), Cond.fieldLink RX7 41 "LiveUpgraderModel" "classes" "I", Cond.methodLink RX7 45 yX7_in, Cond.static yX7_in, Cond.code yX7_in cX7_in 3 (some .boolean), Cond.methodLink RX7 89 yX7_isThere, Cond.instanceMethod yX7_isThere, Cond.selects RX7 yX7_isThere yX7_isThere, Cond.code yX7_isThere cX7_isThere 2 (some .boolean), Cond.fieldLink RX7 13 "LiveUpgraderModel" "depths" "[I", Cond.methodLink RX7 62 yX7_current, Cond.instanceMethod yX7_current, Cond.selects RX7 yX7_current yX7_current, Cond.code yX7_current cX7_current 2 (some .int), Cond.methodLink RX7 53 yX7_of, Cond.instanceMethod yX7_of, Cond.selects RX7 yX7_of yX7_of]
def wsX7_oldFrames_r2 : List Cond := [Cond.code yX7_of cX7_of 3 (some .int), Cond.fieldLink RX7 7 "LiveUpgraderModel" "classAt" "[I", Cond.methodLink RX7 49 yX7_at, Cond.static yX7_at, Cond.code yX7_at cX7_at 2 (some .int)]
def wsX7_oldFrames : List Cond := .code yX7_oldFrames cX7_oldFrames 4 (some .int) :: ((wsX7_oldFrames_r1 ++ wsX7_oldFrames_r2) ++ wsX70)
def wsX7_cell : List Cond := .code yX7_cell cX7_cell 3 (some .int) :: ([])
def wsX7_isObject : List Cond := .code yX7_isObject cX7_isObject 2 (some .boolean) :: ([.fieldLink RX7 96 "LiveUpgraderModel" "created" "I", .fieldLink RX7 25 "LiveUpgraderModel" "exists" "[Z", .methodLink RX7 45 yX7_in, .static yX7_in, .initialized RX7, .code yX7_in cX7_in 3 (some .boolean)] ++ wsX70)
def wsX7_create : List Cond := .code yX7_create cX7_create 5 (some .int) :: ([.constant RX7 106 (-2000003), .fieldLink RX7 13 "LiveUpgraderModel" "depths" "[I", .constant RX7 107 (-2000006), .fieldLink RX7 96 "LiveUpgraderModel" "created" "I", .constant RX7 57 (-2000010), .fieldLink RX7 25 "LiveUpgraderModel" "exists" "[Z", .fieldLink RX7 29 "LiveUpgraderModel" "classOf" "[I", .fieldLink RX7 16 "LiveUpgraderModel" "frameClass" "[I", .fieldLink RX7 32 "LiveUpgraderModel" "versionOf" "[I", .fieldLink RX7 19 "LiveUpgraderModel" "frameVersion" "[I", .fieldLink RX7 35 "LiveUpgraderModel" "createdWith" "[I", .fieldLink RX7 38 "LiveUpgraderModel" "values" "[I", .fieldLink RX7 22 "LiveUpgraderModel" "pins" "[I", .methodLink RX7 103 yX7_isThread, .static yX7_isThread, .initialized RX7, .code yX7_isThread cX7_isThread 1 (some .boolean), .methodLink RX7 45 yX7_in, .static yX7_in, .code yX7_in cX7_in 3 (some .boolean), .methodLink RX7 108 yX7_cell, .static yX7_cell, .code yX7_cell cX7_cell 3 (some .int)] ++ wsX70)
def wsX7_convertOnce : List Cond := .code yX7_convertOnce cX7_convertOnce 10 (some .boolean) :: ([.fieldLink RX7 29 "LiveUpgraderModel" "classOf" "[I", .fieldLink RX7 38 "LiveUpgraderModel" "values" "[I", .fieldLink RX7 7 "LiveUpgraderModel" "classAt" "[I", .constantLong RX7 112 (1000000), .constant RX7 114 (1000001), .constantLong RX7 115 (-1000000), .constant RX7 117 (-1000001), .constant RX7 76 (-1000000), .constant RX7 77 (1000000), .methodLink RX7 108 yX7_cell, .static yX7_cell, .initialized RX7, .code yX7_cell cX7_cell 3 (some .int), .methodLink RX7 53 yX7_of, .instanceMethod yX7_of, .selects RX7 yX7_of yX7_of, .code yX7_of cX7_of 3 (some .int), .methodLink RX7 49 yX7_at, .static yX7_at, .code yX7_at cX7_at 2 (some .int), .methodLink RX7 45 yX7_in, .static yX7_in, .code yX7_in cX7_in 3 (some .boolean)] ++ wsX70)
def wsX7_convert_r1 : List Cond := [Cond.fieldLink RX7 32 "LiveUpgraderModel" "versionOf" "[I", Cond.methodLink RX7 118 yX7_convertOnce, Cond.instanceMethod yX7_convertOnce, Cond.selects RX7 yX7_convertOnce yX7_convertOnce, Cond.initialized RX7, Cond.code yX7_convertOnce cX7_convertOnce 10 (some .boolean), Cond.fieldLink RX7 29 "LiveUpgraderModel" "classOf" "[I", Cond.fieldLink RX7 38 "LiveUpgraderModel" "values" "[I", Cond.fieldLink RX7 7 "LiveUpgraderModel" "classAt" "[I", Cond.constantLong RX7 112 (1000000), Cond.constant RX7 114 (1000001), Cond.constantLong RX7 115 (-1000000), Cond.constant RX7 117 (-1000001), Cond.constant RX7 76 (-1000000), Cond.constant RX7 77 (1000000), Cond.methodLink RX7 108 yX7_cell, Cond.static yX7_cell, Cond.code yX7_cell cX7_cell 3 (some .int), Cond.methodLink RX7 53 yX7_of, Cond.instanceMethod yX7_of, Cond.selects RX7 yX7_of yX7_of, Cond.code yX7_of cX7_of 3 (some .int), Cond.methodLink RX7 49 yX7_at, Cond.static yX7_at]
def wsX7_convert_r2 : List Cond := [Cond.code yX7_at cX7_at 2 (some .int), Cond.methodLink RX7 45 yX7_in, Cond.static yX7_in, Cond.code yX7_in cX7_in 3 (some .boolean)]
def wsX7_convert : List Cond := .code yX7_convert cX7_convert 5 (some .boolean) :: ((wsX7_convert_r1 ++ wsX7_convert_r2) ++ wsX70)
def wsX7_isHeldBelow : List Cond := .code yX7_isHeldBelow cX7_isHeldBelow 5 (some .boolean) :: ([.fieldLink RX7 22 "LiveUpgraderModel" "pins" "[I", .fieldLink RX7 19 "LiveUpgraderModel" "frameVersion" "[I", .methodLink RX7 89 yX7_isThere, .instanceMethod yX7_isThere, .selects RX7 yX7_isThere yX7_isThere, .initialized RX7, .code yX7_isThere cX7_isThere 2 (some .boolean), .fieldLink RX7 13 "LiveUpgraderModel" "depths" "[I"] ++ wsX70)
def wsX7_access_r1 : List Cond := [Cond.constant RX7 106 (-2000003), Cond.fieldLink RX7 13 "LiveUpgraderModel" "depths" "[I", Cond.constant RX7 107 (-2000006), Cond.constant RX7 124 (-2000004), Cond.fieldLink RX7 19 "LiveUpgraderModel" "frameVersion" "[I", Cond.fieldLink RX7 16 "LiveUpgraderModel" "frameClass" "[I", Cond.fieldLink RX7 29 "LiveUpgraderModel" "classOf" "[I", Cond.constant RX7 125 (-2000011), Cond.constant RX7 86 (-2000005), Cond.fieldLink RX7 32 "LiveUpgraderModel" "versionOf" "[I", Cond.constant RX7 126 (-2000012), Cond.constant RX7 130 (-2000013), Cond.constant RX7 134 (-2000014), Cond.fieldLink RX7 22 "LiveUpgraderModel" "pins" "[I", Cond.methodLink RX7 103 yX7_isThread, Cond.static yX7_isThread, Cond.initialized RX7, Cond.code yX7_isThread cX7_isThread 1 (some .boolean), Cond.methodLink RX7 45 yX7_in, Cond.static yX7_in, Cond.code yX7_in cX7_in 3 (some .boolean), Cond.methodLink RX7 121 yX7_isObject, Cond.instanceMethod yX7_isObject, Cond.selects RX7 yX7_isObject yX7_isObject]
def wsX7_access_r2 : List Cond := [Cond.code yX7_isObject cX7_isObject 2 (some .boolean), Cond.fieldLink RX7 96 "LiveUpgraderModel" "created" "I", Cond.fieldLink RX7 25 "LiveUpgraderModel" "exists" "[Z", Cond.methodLink RX7 53 yX7_of, Cond.instanceMethod yX7_of, Cond.selects RX7 yX7_of yX7_of, Cond.code yX7_of cX7_of 3 (some .int), Cond.fieldLink RX7 7 "LiveUpgraderModel" "classAt" "[I", Cond.methodLink RX7 49 yX7_at, Cond.static yX7_at, Cond.code yX7_at cX7_at 2 (some .int), Cond.methodLink RX7 78 yX7_has, Cond.static yX7_has, Cond.code yX7_has cX7_has 2 (some .boolean), Cond.methodLink RX7 127 yX7_isHeldBelow, Cond.instanceMethod yX7_isHeldBelow, Cond.selects RX7 yX7_isHeldBelow yX7_isHeldBelow, Cond.code yX7_isHeldBelow cX7_isHeldBelow 5 (some .boolean), Cond.methodLink RX7 89 yX7_isThere, Cond.instanceMethod yX7_isThere, Cond.selects RX7 yX7_isThere yX7_isThere, Cond.code yX7_isThere cX7_isThere 2 (some .boolean), Cond.methodLink RX7 131 yX7_convert, Cond.instanceMethod yX7_convert]
def wsX7_access_r3 : List Cond := [Cond.selects RX7 yX7_convert yX7_convert, Cond.code yX7_convert cX7_convert 5 (some .boolean), Cond.methodLink RX7 118 yX7_convertOnce, Cond.instanceMethod yX7_convertOnce, Cond.selects RX7 yX7_convertOnce yX7_convertOnce, Cond.code yX7_convertOnce cX7_convertOnce 10 (some .boolean), Cond.fieldLink RX7 38 "LiveUpgraderModel" "values" "[I", Cond.constantLong RX7 112 (1000000), Cond.constant RX7 114 (1000001), Cond.constantLong RX7 115 (-1000000), Cond.constant RX7 117 (-1000001), Cond.constant RX7 76 (-1000000), Cond.constant RX7 77 (1000000), Cond.methodLink RX7 108 yX7_cell, Cond.static yX7_cell, Cond.code yX7_cell cX7_cell 3 (some .int)]
def wsX7_access : List Cond := .code yX7_access cX7_access 6 (some .int) :: ((wsX7_access_r1 ++ (wsX7_access_r2 ++ wsX7_access_r3)) ++ wsX70)
def wsX7_read_r1 : List Cond := [Cond.fieldLink RX7 38 "LiveUpgraderModel" "values" "[I", Cond.fieldLink RX7 32 "LiveUpgraderModel" "versionOf" "[I", Cond.methodLink RX7 135 yX7_access, Cond.instanceMethod yX7_access, Cond.selects RX7 yX7_access yX7_access, Cond.initialized RX7, Cond.code yX7_access cX7_access 6 (some .int), Cond.constant RX7 106 (-2000003), Cond.fieldLink RX7 13 "LiveUpgraderModel" "depths" "[I", Cond.constant RX7 107 (-2000006), Cond.constant RX7 124 (-2000004), Cond.fieldLink RX7 19 "LiveUpgraderModel" "frameVersion" "[I", Cond.fieldLink RX7 16 "LiveUpgraderModel" "frameClass" "[I", Cond.fieldLink RX7 29 "LiveUpgraderModel" "classOf" "[I", Cond.constant RX7 125 (-2000011), Cond.constant RX7 86 (-2000005), Cond.constant RX7 126 (-2000012), Cond.constant RX7 130 (-2000013), Cond.constant RX7 134 (-2000014), Cond.fieldLink RX7 22 "LiveUpgraderModel" "pins" "[I", Cond.methodLink RX7 103 yX7_isThread, Cond.static yX7_isThread, Cond.code yX7_isThread cX7_isThread 1 (some .boolean), Cond.methodLink RX7 45 yX7_in]
def wsX7_read_r2 : List Cond := [Cond.static yX7_in, Cond.code yX7_in cX7_in 3 (some .boolean), Cond.methodLink RX7 121 yX7_isObject, Cond.instanceMethod yX7_isObject, Cond.selects RX7 yX7_isObject yX7_isObject, Cond.code yX7_isObject cX7_isObject 2 (some .boolean), Cond.fieldLink RX7 96 "LiveUpgraderModel" "created" "I", Cond.fieldLink RX7 25 "LiveUpgraderModel" "exists" "[Z", Cond.methodLink RX7 53 yX7_of, Cond.instanceMethod yX7_of, Cond.selects RX7 yX7_of yX7_of, Cond.code yX7_of cX7_of 3 (some .int), Cond.fieldLink RX7 7 "LiveUpgraderModel" "classAt" "[I", Cond.methodLink RX7 49 yX7_at, Cond.static yX7_at, Cond.code yX7_at cX7_at 2 (some .int), Cond.methodLink RX7 78 yX7_has, Cond.static yX7_has, Cond.code yX7_has cX7_has 2 (some .boolean), Cond.methodLink RX7 127 yX7_isHeldBelow, Cond.instanceMethod yX7_isHeldBelow, Cond.selects RX7 yX7_isHeldBelow yX7_isHeldBelow, Cond.code yX7_isHeldBelow cX7_isHeldBelow 5 (some .boolean), Cond.methodLink RX7 89 yX7_isThere]
def wsX7_read_r3 : List Cond := [Cond.instanceMethod yX7_isThere, Cond.selects RX7 yX7_isThere yX7_isThere, Cond.code yX7_isThere cX7_isThere 2 (some .boolean), Cond.methodLink RX7 131 yX7_convert, Cond.instanceMethod yX7_convert, Cond.selects RX7 yX7_convert yX7_convert, Cond.code yX7_convert cX7_convert 5 (some .boolean), Cond.methodLink RX7 118 yX7_convertOnce, Cond.instanceMethod yX7_convertOnce, Cond.selects RX7 yX7_convertOnce yX7_convertOnce, Cond.code yX7_convertOnce cX7_convertOnce 10 (some .boolean), Cond.constantLong RX7 112 (1000000), Cond.constant RX7 114 (1000001), Cond.constantLong RX7 115 (-1000000), Cond.constant RX7 117 (-1000001), Cond.constant RX7 76 (-1000000), Cond.constant RX7 77 (1000000), Cond.methodLink RX7 108 yX7_cell, Cond.static yX7_cell, Cond.code yX7_cell cX7_cell 3 (some .int)]
def wsX7_read : List Cond := .code yX7_read cX7_read 5 (some .int) :: ((wsX7_read_r1 ++ (wsX7_read_r2 ++ wsX7_read_r3)) ++ wsX70)
def wsX7_write_r1 : List Cond := [Cond.constant RX7 76 (-1000000), Cond.constant RX7 77 (1000000), Cond.constant RX7 56 (-2000007), Cond.fieldLink RX7 32 "LiveUpgraderModel" "versionOf" "[I", Cond.fieldLink RX7 38 "LiveUpgraderModel" "values" "[I", Cond.methodLink RX7 45 yX7_in, Cond.static yX7_in, Cond.initialized RX7, Cond.code yX7_in cX7_in 3 (some .boolean), Cond.methodLink RX7 135 yX7_access, Cond.instanceMethod yX7_access, Cond.selects RX7 yX7_access yX7_access, Cond.code yX7_access cX7_access 6 (some .int), Cond.constant RX7 106 (-2000003), Cond.fieldLink RX7 13 "LiveUpgraderModel" "depths" "[I", Cond.constant RX7 107 (-2000006), Cond.constant RX7 124 (-2000004), Cond.fieldLink RX7 19 "LiveUpgraderModel" "frameVersion" "[I", Cond.fieldLink RX7 16 "LiveUpgraderModel" "frameClass" "[I", Cond.fieldLink RX7 29 "LiveUpgraderModel" "classOf" "[I", Cond.constant RX7 125 (-2000011), Cond.constant RX7 86 (-2000005), Cond.constant RX7 126 (-2000012), Cond.constant RX7 130 (-2000013)]
def wsX7_write_r2 : List Cond := [Cond.constant RX7 134 (-2000014), Cond.fieldLink RX7 22 "LiveUpgraderModel" "pins" "[I", Cond.methodLink RX7 103 yX7_isThread, Cond.static yX7_isThread, Cond.code yX7_isThread cX7_isThread 1 (some .boolean), Cond.methodLink RX7 121 yX7_isObject, Cond.instanceMethod yX7_isObject, Cond.selects RX7 yX7_isObject yX7_isObject, Cond.code yX7_isObject cX7_isObject 2 (some .boolean), Cond.fieldLink RX7 96 "LiveUpgraderModel" "created" "I", Cond.fieldLink RX7 25 "LiveUpgraderModel" "exists" "[Z", Cond.methodLink RX7 53 yX7_of, Cond.instanceMethod yX7_of, Cond.selects RX7 yX7_of yX7_of, Cond.code yX7_of cX7_of 3 (some .int), Cond.fieldLink RX7 7 "LiveUpgraderModel" "classAt" "[I", Cond.methodLink RX7 49 yX7_at, Cond.static yX7_at, Cond.code yX7_at cX7_at 2 (some .int), Cond.methodLink RX7 78 yX7_has, Cond.static yX7_has, Cond.code yX7_has cX7_has 2 (some .boolean), Cond.methodLink RX7 127 yX7_isHeldBelow, Cond.instanceMethod yX7_isHeldBelow]
def wsX7_write_r3 : List Cond := [Cond.selects RX7 yX7_isHeldBelow yX7_isHeldBelow, Cond.code yX7_isHeldBelow cX7_isHeldBelow 5 (some .boolean), Cond.methodLink RX7 89 yX7_isThere, Cond.instanceMethod yX7_isThere, Cond.selects RX7 yX7_isThere yX7_isThere, Cond.code yX7_isThere cX7_isThere 2 (some .boolean), Cond.methodLink RX7 131 yX7_convert, Cond.instanceMethod yX7_convert, Cond.selects RX7 yX7_convert yX7_convert, Cond.code yX7_convert cX7_convert 5 (some .boolean), Cond.methodLink RX7 118 yX7_convertOnce, Cond.instanceMethod yX7_convertOnce, Cond.selects RX7 yX7_convertOnce yX7_convertOnce, Cond.code yX7_convertOnce cX7_convertOnce 10 (some .boolean), Cond.constantLong RX7 112 (1000000), Cond.constant RX7 114 (1000001), Cond.constantLong RX7 115 (-1000000), Cond.constant RX7 117 (-1000001), Cond.methodLink RX7 108 yX7_cell, Cond.static yX7_cell, Cond.code yX7_cell cX7_cell 3 (some .int)]
def wsX7_write : List Cond := .code yX7_write cX7_write 8 (some .int) :: ((wsX7_write_r1 ++ (wsX7_write_r2 ++ wsX7_write_r3)) ++ wsX70)
def wsX7_peek_r1 : List Cond := [Cond.constant RX7 124 (-2000004), Cond.fieldLink RX7 32 "LiveUpgraderModel" "versionOf" "[I", Cond.fieldLink RX7 29 "LiveUpgraderModel" "classOf" "[I", Cond.fieldLink RX7 38 "LiveUpgraderModel" "values" "[I", Cond.constant RX7 86 (-2000005), Cond.methodLink RX7 121 yX7_isObject, Cond.instanceMethod yX7_isObject, Cond.selects RX7 yX7_isObject yX7_isObject, Cond.initialized RX7, Cond.code yX7_isObject cX7_isObject 2 (some .boolean), Cond.fieldLink RX7 96 "LiveUpgraderModel" "created" "I", Cond.fieldLink RX7 25 "LiveUpgraderModel" "exists" "[Z", Cond.methodLink RX7 45 yX7_in, Cond.static yX7_in, Cond.code yX7_in cX7_in 3 (some .boolean), Cond.methodLink RX7 53 yX7_of, Cond.instanceMethod yX7_of, Cond.selects RX7 yX7_of yX7_of, Cond.code yX7_of cX7_of 3 (some .int), Cond.fieldLink RX7 7 "LiveUpgraderModel" "classAt" "[I", Cond.methodLink RX7 49 yX7_at, Cond.static yX7_at, Cond.code yX7_at cX7_at 2 (some .int), Cond.methodLink RX7 78 yX7_has]
def wsX7_peek_r2 : List Cond := [Cond.static yX7_has, Cond.code yX7_has cX7_has 2 (some .boolean), Cond.methodLink RX7 108 yX7_cell, Cond.static yX7_cell, Cond.code yX7_cell cX7_cell 3 (some .int)]
def wsX7_peek : List Cond := .code yX7_peek cX7_peek 4 (some .int) :: ((wsX7_peek_r1 ++ wsX7_peek_r2) ++ wsX70)
def wsX7_objectVersion : List Cond := .code yX7_objectVersion cX7_objectVersion 2 (some .int) :: ([.fieldLink RX7 32 "LiveUpgraderModel" "versionOf" "[I", .constant RX7 124 (-2000004), .methodLink RX7 121 yX7_isObject, .instanceMethod yX7_isObject, .selects RX7 yX7_isObject yX7_isObject, .initialized RX7, .code yX7_isObject cX7_isObject 2 (some .boolean), .fieldLink RX7 96 "LiveUpgraderModel" "created" "I", .fieldLink RX7 25 "LiveUpgraderModel" "exists" "[Z", .methodLink RX7 45 yX7_in, .static yX7_in, .code yX7_in cX7_in 3 (some .boolean)] ++ wsX70)
def wsX7_conversions : List Cond := .code yX7_conversions cX7_conversions 2 (some .int) :: ([.fieldLink RX7 32 "LiveUpgraderModel" "versionOf" "[I", .fieldLink RX7 35 "LiveUpgraderModel" "createdWith" "[I", .constant RX7 124 (-2000004), .methodLink RX7 121 yX7_isObject, .instanceMethod yX7_isObject, .selects RX7 yX7_isObject yX7_isObject, .initialized RX7, .code yX7_isObject cX7_isObject 2 (some .boolean), .fieldLink RX7 96 "LiveUpgraderModel" "created" "I", .fieldLink RX7 25 "LiveUpgraderModel" "exists" "[Z", .methodLink RX7 45 yX7_in, .static yX7_in, .code yX7_in cX7_in 3 (some .boolean)] ++ wsX70)
def wsX7_pinnedBy : List Cond := .code yX7_pinnedBy cX7_pinnedBy 5 (some .int) :: ([.constant RX7 124 (-2000004), .constant RX7 138 (-2000016), .fieldLink RX7 22 "LiveUpgraderModel" "pins" "[I", .fieldLink RX7 19 "LiveUpgraderModel" "frameVersion" "[I", .methodLink RX7 121 yX7_isObject, .instanceMethod yX7_isObject, .selects RX7 yX7_isObject yX7_isObject, .initialized RX7, .code yX7_isObject cX7_isObject 2 (some .boolean), .fieldLink RX7 96 "LiveUpgraderModel" "created" "I", .fieldLink RX7 25 "LiveUpgraderModel" "exists" "[Z", .methodLink RX7 45 yX7_in, .static yX7_in, .code yX7_in cX7_in 3 (some .boolean), .methodLink RX7 89 yX7_isThere, .instanceMethod yX7_isThere, .selects RX7 yX7_isThere yX7_isThere, .code yX7_isThere cX7_isThere 2 (some .boolean), .fieldLink RX7 13 "LiveUpgraderModel" "depths" "[I"] ++ wsX70)
def wsX7_outdated_r1 : List Cond := [Cond.constant RX7 66 (-2000001), Cond.fieldLink RX7 96 "LiveUpgraderModel" "created" "I", Cond.fieldLink RX7 25 "LiveUpgraderModel" "exists" "[Z", Cond.fieldLink RX7 29 "LiveUpgraderModel" "classOf" "[I", Cond.fieldLink RX7 32 "LiveUpgraderModel" "versionOf" "[I", Cond.methodLink RX7 58 yX7_isClass, Cond.instanceMethod yX7_isClass, Cond.selects RX7 yX7_isClass yX7_isClass, Cond.initialized RX7, Cond.code yX7_isClass cX7_isClass 2 (some .boolean), Cond.fieldLink RX7 41 "LiveUpgraderModel" "classes" "I", Cond.methodLink RX7 45 yX7_in, Cond.static yX7_in, Cond.code yX7_in cX7_in 3 (some .boolean), Cond.methodLink RX7 62 yX7_current, Cond.instanceMethod yX7_current, Cond.selects RX7 yX7_current yX7_current, Cond.code yX7_current cX7_current 2 (some .int), Cond.methodLink RX7 53 yX7_of, Cond.instanceMethod yX7_of, Cond.selects RX7 yX7_of yX7_of, Cond.code yX7_of cX7_of 3 (some .int), Cond.fieldLink RX7 7 "LiveUpgraderModel" "classAt" "[I", Cond.methodLink RX7 49 yX7_at]
def wsX7_outdated_r2 : List Cond := [Cond.static yX7_at, Cond.code yX7_at cX7_at 2 (some .int)]
def wsX7_outdated : List Cond := .code yX7_outdated cX7_outdated 4 (some .int) :: ((wsX7_outdated_r1 ++ wsX7_outdated_r2) ++ wsX70)
def wsX7_convertAll_r1 : List Cond := [Cond.constant RX7 66 (-2000001), Cond.fieldLink RX7 96 "LiveUpgraderModel" "created" "I", Cond.fieldLink RX7 25 "LiveUpgraderModel" "exists" "[Z", Cond.fieldLink RX7 29 "LiveUpgraderModel" "classOf" "[I", Cond.fieldLink RX7 32 "LiveUpgraderModel" "versionOf" "[I", Cond.methodLink RX7 58 yX7_isClass, Cond.instanceMethod yX7_isClass, Cond.selects RX7 yX7_isClass yX7_isClass, Cond.initialized RX7, Cond.code yX7_isClass cX7_isClass 2 (some .boolean), Cond.fieldLink RX7 41 "LiveUpgraderModel" "classes" "I", Cond.methodLink RX7 45 yX7_in, Cond.static yX7_in, Cond.code yX7_in cX7_in 3 (some .boolean), Cond.methodLink RX7 62 yX7_current, Cond.instanceMethod yX7_current, Cond.selects RX7 yX7_current yX7_current, Cond.code yX7_current cX7_current 2 (some .int), Cond.methodLink RX7 53 yX7_of, Cond.instanceMethod yX7_of, Cond.selects RX7 yX7_of yX7_of, Cond.code yX7_of cX7_of 3 (some .int), Cond.fieldLink RX7 7 "LiveUpgraderModel" "classAt" "[I", Cond.methodLink RX7 49 yX7_at]
def wsX7_convertAll_r2 : List Cond := [Cond.static yX7_at, Cond.code yX7_at cX7_at 2 (some .int), Cond.methodLink RX7 127 yX7_isHeldBelow, Cond.instanceMethod yX7_isHeldBelow, Cond.selects RX7 yX7_isHeldBelow yX7_isHeldBelow, Cond.code yX7_isHeldBelow cX7_isHeldBelow 5 (some .boolean), Cond.fieldLink RX7 22 "LiveUpgraderModel" "pins" "[I", Cond.fieldLink RX7 19 "LiveUpgraderModel" "frameVersion" "[I", Cond.methodLink RX7 89 yX7_isThere, Cond.instanceMethod yX7_isThere, Cond.selects RX7 yX7_isThere yX7_isThere, Cond.code yX7_isThere cX7_isThere 2 (some .boolean), Cond.fieldLink RX7 13 "LiveUpgraderModel" "depths" "[I", Cond.methodLink RX7 131 yX7_convert, Cond.instanceMethod yX7_convert, Cond.selects RX7 yX7_convert yX7_convert, Cond.code yX7_convert cX7_convert 5 (some .boolean), Cond.methodLink RX7 118 yX7_convertOnce, Cond.instanceMethod yX7_convertOnce, Cond.selects RX7 yX7_convertOnce yX7_convertOnce, Cond.code yX7_convertOnce cX7_convertOnce 10 (some .boolean), Cond.fieldLink RX7 38 "LiveUpgraderModel" "values" "[I", Cond.constantLong RX7 112 (1000000), Cond.constant RX7 114 (1000001)]
def wsX7_convertAll_r3 : List Cond := [Cond.constantLong RX7 115 (-1000000), Cond.constant RX7 117 (-1000001), Cond.constant RX7 76 (-1000000), Cond.constant RX7 77 (1000000), Cond.methodLink RX7 108 yX7_cell, Cond.static yX7_cell, Cond.code yX7_cell cX7_cell 3 (some .int)]
def wsX7_convertAll : List Cond := .code yX7_convertAll cX7_convertAll 6 (some .int) :: ((wsX7_convertAll_r1 ++ (wsX7_convertAll_r2 ++ wsX7_convertAll_r3)) ++ wsX70)
def wsJ9_min_7cf53 : List Cond := .code yJ9_min_7cf53 cJ9_min_7cf53 2 (some .int) :: ([])
def wsL_law_r1 : List Cond := [Cond.classLink RL 7 RX6, Cond.instantiable RX6 5, Cond.initialized RX6, Cond.classLink RL 10 RX7, Cond.instantiable RX7 12, Cond.initialized RX7, Cond.methodLink RL 9 yX6_init, Cond.instanceMethod yX6_init, Cond.code yX6_init cX6_init 2 none, Cond.methodLink RX6 1 objectInit, Cond.instanceMethod objectInit, Cond.code objectInit ⟨#[0xb1]⟩ 1 none, Cond.classLink RX6 9 RX1, Cond.fieldLink RX6 11 "LiveUpgrader" "histories" "[LLiveUpgrader$ClassHistory;", Cond.classLink RX6 15 RX0, Cond.fieldLink RX6 17 "LiveUpgrader" "stacks" "[LLiveUpgrader$CallStack;", Cond.instantiable RX0 2, Cond.initialized RX0, Cond.classLink RX6 22 RX5, Cond.fieldLink RX6 24 "LiveUpgrader" "objects" "[LLiveUpgrader$StoredObject;", Cond.instanceMethod yX0_init, Cond.code yX0_init cX0_init 1 none, Cond.methodLink RX0 3 objectInit, Cond.classLink RX0 9 RX3]
def wsL_law_r2 : List Cond := [Cond.fieldLink RX0 11 "LiveUpgrader$CallStack" "frames" "[LLiveUpgrader$Frame;", Cond.methodLink RL 12 yX7_init, Cond.instanceMethod yX7_init, Cond.code yX7_init cX7_init 1 none, Cond.methodLink RX7 1 objectInit, Cond.arrayClass .int, Cond.fieldLink RX7 7 "LiveUpgraderModel" "classAt" "[I", Cond.fieldLink RX7 13 "LiveUpgraderModel" "depths" "[I", Cond.fieldLink RX7 16 "LiveUpgraderModel" "frameClass" "[I", Cond.fieldLink RX7 19 "LiveUpgraderModel" "frameVersion" "[I", Cond.fieldLink RX7 22 "LiveUpgraderModel" "pins" "[I", Cond.arrayClass .boolean, Cond.fieldLink RX7 25 "LiveUpgraderModel" "exists" "[Z", Cond.fieldLink RX7 29 "LiveUpgraderModel" "classOf" "[I", Cond.fieldLink RX7 32 "LiveUpgraderModel" "versionOf" "[I", Cond.fieldLink RX7 35 "LiveUpgraderModel" "createdWith" "[I", Cond.fieldLink RX7 38 "LiveUpgraderModel" "values" "[I", Cond.methodLink RL 13 yX6_addClass, Cond.instanceMethod yX6_addClass, Cond.selects RX6 yX6_addClass yX6_addClass, Cond.code yX6_addClass cX6_addClass 3 (some .int), Cond.constant RX6 28 (-2000007), Cond.fieldLink RX6 29 "LiveUpgrader" "classCount" "I", Cond.constant RX6 33 (-2000010)]
def wsL_law_r3 : List Cond := [Cond.instantiable RX1 5, Cond.initialized RX1, Cond.methodLink RX6 34 yX1_init, Cond.instanceMethod yX1_init, Cond.code yX1_init cX1_init 4 none, Cond.methodLink RX1 3 objectInit, Cond.fieldLink RX1 9 "LiveUpgrader$ClassHistory" "fieldSets" "[I", Cond.classLink RX1 15 RX2, Cond.fieldLink RX1 17 "LiveUpgrader$ClassHistory" "converters" "[LLiveUpgrader$Converter;", Cond.fieldLink RX1 21 "LiveUpgrader$ClassHistory" "type" "I", Cond.instantiable RX2 2, Cond.initialized RX2, Cond.instanceMethod yX2_init, Cond.code yX2_init cX2_init 1 none, Cond.methodLink RX2 3 objectInit, Cond.classLink RX2 9 RX4, Cond.fieldLink RX2 11 "LiveUpgrader$Converter" "steps" "[LLiveUpgrader$Step;", Cond.methodLink RL 17 yX7_addClass, Cond.instanceMethod yX7_addClass, Cond.selects RX7 yX7_addClass yX7_addClass, Cond.code yX7_addClass cX7_addClass 2 (some .int), Cond.constant RX7 56 (-2000007), Cond.fieldLink RX7 41 "LiveUpgraderModel" "classes" "I", Cond.constant RX7 57 (-2000010)]
def wsL_law_r4 : List Cond := [Cond.methodLink RX7 45 yX7_in, Cond.static yX7_in, Cond.code yX7_in cX7_in 3 (some .boolean), Cond.methodLink RX7 49 yX7_at, Cond.static yX7_at, Cond.code yX7_at cX7_at 2 (some .int), Cond.methodLink RL 18 yX6_currentVersion, Cond.instanceMethod yX6_currentVersion, Cond.selects RX6 yX6_currentVersion yX6_currentVersion, Cond.code yX6_currentVersion cX6_currentVersion 3 (some .int), Cond.constant RX6 41 (-2000001), Cond.methodLink RX6 37 yX6_historyOf, Cond.instanceMethod yX6_historyOf, Cond.selects RX6 yX6_historyOf yX6_historyOf, Cond.code yX6_historyOf cX6_historyOf 2 (some (.object "LiveUpgrader$ClassHistory")), Cond.methodLink RL 21 yX7_currentVersion, Cond.instanceMethod yX7_currentVersion, Cond.selects RX7 yX7_currentVersion yX7_currentVersion, Cond.code yX7_currentVersion cX7_currentVersion 2 (some .int), Cond.constant RX7 66 (-2000001), Cond.methodLink RX7 58 yX7_isClass, Cond.instanceMethod yX7_isClass, Cond.selects RX7 yX7_isClass yX7_isClass, Cond.code yX7_isClass cX7_isClass 2 (some .boolean)]
def wsL_law_r5 : List Cond := [Cond.methodLink RX7 62 yX7_current, Cond.instanceMethod yX7_current, Cond.selects RX7 yX7_current yX7_current, Cond.code yX7_current cX7_current 2 (some .int), Cond.methodLink RX7 53 yX7_of, Cond.instanceMethod yX7_of, Cond.selects RX7 yX7_of yX7_of, Cond.code yX7_of cX7_of 3 (some .int), Cond.methodLink RL 22 yX6_fields, Cond.instanceMethod yX6_fields, Cond.selects RX6 yX6_fields yX6_fields, Cond.code yX6_fields cX6_fields 4 (some .int), Cond.constant RX6 45 (-2000002), Cond.methodLink RX6 46 yX1_fieldSet, Cond.instanceMethod yX1_fieldSet, Cond.selects RX1 yX1_fieldSet yX1_fieldSet, Cond.code yX1_fieldSet cX1_fieldSet 2 (some .int), Cond.methodLink RL 26 yX7_fields, Cond.instanceMethod yX7_fields, Cond.selects RX7 yX7_fields yX7_fields, Cond.code yX7_fields cX7_fields 3 (some .int), Cond.constant RX7 67 (-2000002), Cond.methodLink RL 27 yX6_stage, Cond.instanceMethod yX6_stage]
def wsL_law_r6 : List Cond := [Cond.selects RX6 yX6_stage yX6_stage, Cond.code yX6_stage cX6_stage 3 (some .int), Cond.constant RX6 54 (-2000009), Cond.methodLink RX6 55 yX1_beginStaged, Cond.instanceMethod yX1_beginStaged, Cond.selects RX1 yX1_beginStaged yX1_beginStaged, Cond.code yX1_beginStaged cX1_beginStaged 1 (some .int), Cond.constant RX1 37 (-2000010), Cond.fieldLink RX1 26 "LiveUpgrader$ClassHistory" "current" "I", Cond.fieldLink RX1 41 "LiveUpgrader$ClassHistory" "staged" "Z", Cond.methodLink RX1 33 yX1_isFull, Cond.instanceMethod yX1_isFull, Cond.selects RX1 yX1_isFull yX1_isFull, Cond.code yX1_isFull cX1_isFull 1 (some .boolean), Cond.methodLink RX1 38 yX2_clear, Cond.instanceMethod yX2_clear, Cond.selects RX2 yX2_clear yX2_clear, Cond.code yX2_clear cX2_clear 1 none, Cond.fieldLink RX2 17 "LiveUpgrader$Converter" "length" "I", Cond.methodLink RL 30 yX7_stage, Cond.instanceMethod yX7_stage, Cond.selects RX7 yX7_stage yX7_stage, Cond.code yX7_stage cX7_stage 3 (some .int), Cond.constant RX7 68 (-2000009)]
def wsL_law_r7 : List Cond := [Cond.methodLink RL 31 yX6_stagedFields, Cond.instanceMethod yX6_stagedFields, Cond.selects RX6 yX6_stagedFields yX6_stagedFields, Cond.code yX6_stagedFields cX6_stagedFields 3 (some .int), Cond.constant RX6 59 (-2000008), Cond.methodLink RX6 60 yX1_stagedSet, Cond.instanceMethod yX1_stagedSet, Cond.selects RX1 yX1_stagedSet yX1_stagedSet, Cond.code yX1_stagedSet cX1_stagedSet 1 (some .int), Cond.methodLink RX1 29 yX1_fieldSet, Cond.methodLink RL 34 yX7_stagedFields, Cond.instanceMethod yX7_stagedFields, Cond.selects RX7 yX7_stagedFields yX7_stagedFields, Cond.code yX7_stagedFields cX7_stagedFields 3 (some .int), Cond.methodLink RX7 70 yX7_wrongStage, Cond.instanceMethod yX7_wrongStage, Cond.selects RX7 yX7_wrongStage yX7_wrongStage, Cond.code yX7_wrongStage cX7_wrongStage 2 (some .int), Cond.constant RX7 69 (-2000008), Cond.methodLink RX7 73 yX7_stagedNow, Cond.instanceMethod yX7_stagedNow, Cond.selects RX7 yX7_stagedNow yX7_stagedNow, Cond.code yX7_stagedNow cX7_stagedNow 2 (some .int), Cond.methodLink RL 35 yX6_addField]
def wsL_law_r8 : List Cond := [Cond.instanceMethod yX6_addField, Cond.selects RX6 yX6_addField yX6_addField, Cond.code yX6_addField cX6_addField 5 (some .int), Cond.methodLink RX6 63 yX6_isField, Cond.static yX6_isField, Cond.code yX6_isField cX6_isField 1 (some .boolean), Cond.methodLink RX6 67 yX6_isValue, Cond.static yX6_isValue, Cond.code yX6_isValue cX6_isValue 2 (some .boolean), Cond.constantLong RX6 176 (-1000000), Cond.constantLong RX6 178 (1000000), Cond.methodLink RX6 71 yX6_contains, Cond.static yX6_contains, Cond.code yX6_contains cX6_contains 2 (some .boolean), Cond.methodLink RX6 77 yX1_append, Cond.instanceMethod yX1_append, Cond.selects RX1 yX1_append yX1_append, Cond.code yX1_append cX1_append 5 (some .int), Cond.classLink RX1 46 RX4, Cond.instantiable RX4 3, Cond.initialized RX4, Cond.methodLink RX1 45 yX2_isFull, Cond.instanceMethod yX2_isFull, Cond.selects RX2 yX2_isFull yX2_isFull]
def wsL_law_r9 : List Cond := [Cond.code yX2_isFull cX2_isFull 1 (some .boolean), Cond.methodLink RX1 48 yX4_init, Cond.instanceMethod yX4_init, Cond.code yX4_init cX4_init 4 none, Cond.methodLink RX4 1 objectInit, Cond.fieldLink RX4 7 "LiveUpgrader$Step" "kind" "I", Cond.fieldLink RX4 13 "LiveUpgrader$Step" "field" "I", Cond.fieldLink RX4 16 "LiveUpgrader$Step" "operand" "I", Cond.methodLink RX1 51 yX4_changedSet, Cond.instanceMethod yX4_changedSet, Cond.selects RX4 yX4_changedSet yX4_changedSet, Cond.code yX4_changedSet cX4_changedSet 2 (some .int), Cond.methodLink RX1 54 yX2_append, Cond.instanceMethod yX2_append, Cond.selects RX2 yX2_append yX2_append, Cond.code yX2_append cX2_append 2 (some .int), Cond.constant RX2 25 (-2000010), Cond.methodLink RX2 21 yX2_isFull, Cond.methodLink RL 39 yX7_addField, Cond.instanceMethod yX7_addField, Cond.selects RX7 yX7_addField yX7_addField, Cond.code yX7_addField cX7_addField 6 (some .int), Cond.constant RX7 76 (-1000000), Cond.constant RX7 77 (1000000)]
def wsL_law_r10 : List Cond := [Cond.methodLink RX7 78 yX7_has, Cond.static yX7_has, Cond.code yX7_has cX7_has 2 (some .boolean), Cond.methodLink RX7 82 yX7_append, Cond.instanceMethod yX7_append, Cond.selects RX7 yX7_append yX7_append, Cond.code yX7_append cX7_append 9 (some .int), Cond.methodLink RL 40 yX6_dropField, Cond.instanceMethod yX6_dropField, Cond.selects RX6 yX6_dropField yX6_dropField, Cond.code yX6_dropField cX6_dropField 4 (some .int), Cond.constant RX6 81 (-2000005), Cond.methodLink RL 43 yX7_dropField, Cond.instanceMethod yX7_dropField, Cond.selects RX7 yX7_dropField yX7_dropField, Cond.code yX7_dropField cX7_dropField 5 (some .int), Cond.constant RX7 86 (-2000005), Cond.methodLink RL 44 yX6_renameField, Cond.instanceMethod yX6_renameField, Cond.selects RX6 yX6_renameField yX6_renameField, Cond.code yX6_renameField cX6_renameField 5 (some .int), Cond.methodLink RL 47 yX7_renameField, Cond.instanceMethod yX7_renameField, Cond.selects RX7 yX7_renameField yX7_renameField]
def wsL_law_r11 : List Cond := [Cond.code yX7_renameField cX7_renameField 6 (some .int), Cond.methodLink RL 48 yX6_scaleField, Cond.instanceMethod yX6_scaleField, Cond.selects RX6 yX6_scaleField yX6_scaleField, Cond.code yX6_scaleField cX6_scaleField 5 (some .int), Cond.constant RX6 82 (-100000), Cond.constant RX6 83 (100000), Cond.methodLink RL 51 yX7_scaleField, Cond.instanceMethod yX7_scaleField, Cond.selects RX7 yX7_scaleField yX7_scaleField, Cond.code yX7_scaleField cX7_scaleField 6 (some .int), Cond.constant RX7 87 (-100000), Cond.constant RX7 88 (100000), Cond.methodLink RL 52 yX6_mergeField, Cond.instanceMethod yX6_mergeField, Cond.selects RX6 yX6_mergeField yX6_mergeField, Cond.code yX6_mergeField cX6_mergeField 5 (some .int), Cond.methodLink RL 55 yX7_mergeField, Cond.instanceMethod yX7_mergeField, Cond.selects RX7 yX7_mergeField yX7_mergeField, Cond.code yX7_mergeField cX7_mergeField 6 (some .int), Cond.methodLink RL 56 yX6_activate, Cond.instanceMethod yX6_activate, Cond.selects RX6 yX6_activate yX6_activate]
def wsL_law_r12 : List Cond := [Cond.code yX6_activate cX6_activate 3 (some .int), Cond.methodLink RX6 84 yX1_activateStaged, Cond.instanceMethod yX1_activateStaged, Cond.selects RX1 yX1_activateStaged yX1_activateStaged, Cond.code yX1_activateStaged cX1_activateStaged 1 (some .int), Cond.methodLink RL 59 yX7_activate, Cond.instanceMethod yX7_activate, Cond.selects RX7 yX7_activate yX7_activate, Cond.code yX7_activate cX7_activate 3 (some .int), Cond.methodLink RL 60 yX6_discard, Cond.instanceMethod yX6_discard, Cond.selects RX6 yX6_discard yX6_discard, Cond.code yX6_discard cX6_discard 3 (some .int), Cond.methodLink RX6 87 yX1_discardStaged, Cond.instanceMethod yX1_discardStaged, Cond.selects RX1 yX1_discardStaged yX1_discardStaged, Cond.code yX1_discardStaged cX1_discardStaged 1 (some .int), Cond.methodLink RL 63 yX7_discard, Cond.instanceMethod yX7_discard, Cond.selects RX7 yX7_discard yX7_discard, Cond.code yX7_discard cX7_discard 3 (some .int), Cond.methodLink RL 64 yX6_rollback, Cond.instanceMethod yX6_rollback, Cond.selects RX6 yX6_rollback yX6_rollback]
def wsL_law_r13 : List Cond := [Cond.code yX6_rollback cX6_rollback 4 (some .int), Cond.constant RX6 93 (-2000015), Cond.methodLink RX6 90 yX6_countFrames, Cond.instanceMethod yX6_countFrames, Cond.selects RX6 yX6_countFrames yX6_countFrames, Cond.code yX6_countFrames cX6_countFrames 6 (some .int), Cond.methodLink RX6 180 yX0_countFrames, Cond.instanceMethod yX0_countFrames, Cond.selects RX0 yX0_countFrames yX0_countFrames, Cond.code yX0_countFrames cX0_countFrames 7 (some .int), Cond.fieldLink RX0 17 "LiveUpgrader$CallStack" "size" "I", Cond.methodLink RX6 94 yX6_rollBackObjects, Cond.instanceMethod yX6_rollBackObjects, Cond.selects RX6 yX6_rollBackObjects yX6_rollBackObjects, Cond.code yX6_rollBackObjects cX6_rollBackObjects 5 none, Cond.fieldLink RX6 136 "LiveUpgrader" "createdCount" "I", Cond.methodLink RX6 192 yX5_revert, Cond.instanceMethod yX5_revert, Cond.selects RX5 yX5_revert yX5_revert, Cond.initialized RX5, Cond.code yX5_revert cX5_revert 1 none, Cond.fieldLink RX5 24 "LiveUpgrader$StoredObject" "version" "I", Cond.fieldLink RX5 20 "LiveUpgrader$StoredObject" "firstVersion" "I", Cond.methodLink RX6 97 yX1_removeCurrent]
def wsL_law_r14 : List Cond := [Cond.instanceMethod yX1_removeCurrent, Cond.selects RX1 yX1_removeCurrent yX1_removeCurrent, Cond.code yX1_removeCurrent cX1_removeCurrent 1 (some .int), Cond.methodLink RL 67 yX7_rollback, Cond.instanceMethod yX7_rollback, Cond.selects RX7 yX7_rollback yX7_rollback, Cond.code yX7_rollback cX7_rollback 4 (some .int), Cond.constant RX7 95 (-2000015), Cond.fieldLink RX7 96 "LiveUpgraderModel" "created" "I", Cond.methodLink RX7 92 yX7_runs, Cond.instanceMethod yX7_runs, Cond.selects RX7 yX7_runs yX7_runs, Cond.code yX7_runs cX7_runs 5 (some .boolean), Cond.methodLink RX7 89 yX7_isThere, Cond.instanceMethod yX7_isThere, Cond.selects RX7 yX7_isThere yX7_isThere, Cond.code yX7_isThere cX7_isThere 2 (some .boolean), Cond.methodLink RX7 99 yX7_delete, Cond.instanceMethod yX7_delete, Cond.selects RX7 yX7_delete yX7_delete, Cond.code yX7_delete cX7_delete 3 none, Cond.methodLink RL 68 yX6_call, Cond.instanceMethod yX6_call, Cond.selects RX6 yX6_call yX6_call]
def wsL_law_r15 : List Cond := [Cond.code yX6_call cX6_call 5 (some .int), Cond.constant RX6 104 (-2000003), Cond.methodLink RX6 100 yX6_stackOf, Cond.instanceMethod yX6_stackOf, Cond.selects RX6 yX6_stackOf yX6_stackOf, Cond.code yX6_stackOf cX6_stackOf 2 (some (.object "LiveUpgrader$CallStack")), Cond.methodLink RX6 105 yX0_push, Cond.instanceMethod yX0_push, Cond.selects RX0 yX0_push yX0_push, Cond.code yX0_push cX0_push 2 (some .int), Cond.constant RX0 21 (-2000010), Cond.instantiable RX3 3, Cond.initialized RX3, Cond.methodLink RX0 22 yX3_init, Cond.instanceMethod yX3_init, Cond.code yX3_init cX3_init 2 none, Cond.methodLink RX3 1 objectInit, Cond.fieldLink RX3 7 "LiveUpgrader$Frame" "history" "LLiveUpgrader$ClassHistory;", Cond.fieldLink RX3 19 "LiveUpgrader$Frame" "version" "I", Cond.methodLink RL 71 yX7_call, Cond.instanceMethod yX7_call, Cond.selects RX7 yX7_call yX7_call, Cond.code yX7_call cX7_call 4 (some .int), Cond.constant RX7 106 (-2000003)]
def wsL_law_r16 : List Cond := [Cond.methodLink RX7 103 yX7_isThread, Cond.static yX7_isThread, Cond.code yX7_isThread cX7_isThread 1 (some .boolean), Cond.methodLink RL 72 yX6_finish, Cond.instanceMethod yX6_finish, Cond.selects RX6 yX6_finish yX6_finish, Cond.code yX6_finish cX6_finish 3 (some .int), Cond.methodLink RX6 109 yX0_pop, Cond.instanceMethod yX0_pop, Cond.selects RX0 yX0_pop yX0_pop, Cond.code yX0_pop cX0_pop 1 (some .int), Cond.constant RX0 25 (-2000006), Cond.methodLink RL 75 yX7_finish, Cond.instanceMethod yX7_finish, Cond.selects RX7 yX7_finish yX7_finish, Cond.code yX7_finish cX7_finish 2 (some .int), Cond.constant RX7 107 (-2000006), Cond.methodLink RL 76 yX6_depth, Cond.instanceMethod yX6_depth, Cond.selects RX6 yX6_depth yX6_depth, Cond.code yX6_depth cX6_depth 3 (some .int), Cond.methodLink RL 79 yX7_depth, Cond.instanceMethod yX7_depth, Cond.selects RX7 yX7_depth yX7_depth]
def wsL_law_r17 : List Cond := [Cond.code yX7_depth cX7_depth 2 (some .int), Cond.methodLink RL 80 yX6_frameClass, Cond.instanceMethod yX6_frameClass, Cond.selects RX6 yX6_frameClass yX6_frameClass, Cond.code yX6_frameClass cX6_frameClass 5 (some .int), Cond.constant RX6 119 (-2000006), Cond.methodLink RX6 115 yX0_frameAt, Cond.instanceMethod yX0_frameAt, Cond.selects RX0 yX0_frameAt yX0_frameAt, Cond.code yX0_frameAt cX0_frameAt 2 (some (.object "LiveUpgrader$Frame")), Cond.methodLink RL 83 yX7_frameClass, Cond.instanceMethod yX7_frameClass, Cond.selects RX7 yX7_frameClass yX7_frameClass, Cond.code yX7_frameClass cX7_frameClass 3 (some .int), Cond.methodLink RL 84 yX6_frameVersion, Cond.instanceMethod yX6_frameVersion, Cond.selects RX6 yX6_frameVersion yX6_frameVersion, Cond.code yX6_frameVersion cX6_frameVersion 5 (some .int), Cond.methodLink RL 87 yX7_frameVersion, Cond.instanceMethod yX7_frameVersion, Cond.selects RX7 yX7_frameVersion yX7_frameVersion, Cond.code yX7_frameVersion cX7_frameVersion 3 (some .int), Cond.methodLink RL 88 yX6_oldFrames, Cond.instanceMethod yX6_oldFrames]
def wsL_law_r18 : List Cond := [Cond.selects RX6 yX6_oldFrames yX6_oldFrames, Cond.code yX6_oldFrames cX6_oldFrames 3 (some .int), Cond.methodLink RL 91 yX7_oldFrames, Cond.instanceMethod yX7_oldFrames, Cond.selects RX7 yX7_oldFrames yX7_oldFrames, Cond.code yX7_oldFrames cX7_oldFrames 4 (some .int), Cond.methodLink RL 92 yX6_create, Cond.instanceMethod yX6_create, Cond.selects RX6 yX6_create yX6_create, Cond.code yX6_create cX6_create 5 (some .int), Cond.instantiable RX5 4, Cond.methodLink RX6 132 yX0_top, Cond.instanceMethod yX0_top, Cond.selects RX0 yX0_top yX0_top, Cond.code yX0_top cX0_top 1 (some (.object "LiveUpgrader$Frame")), Cond.methodLink RX0 26 yX0_frameAt, Cond.methodLink RX6 139 yX5_init, Cond.instanceMethod yX5_init, Cond.code yX5_init cX5_init 3 none, Cond.methodLink RX5 3 objectInit, Cond.classLink RX5 9 "[[I", Cond.fieldLink RX5 11 "LiveUpgrader$StoredObject" "rows" "[[I", Cond.fieldLink RX5 16 "LiveUpgrader$StoredObject" "history" "LLiveUpgrader$ClassHistory;", Cond.methodLink RX6 142 yX3_pin]
def wsL_law_r19 : List Cond := [Cond.instanceMethod yX3_pin, Cond.selects RX3 yX3_pin yX3_pin, Cond.code yX3_pin cX3_pin 2 none, Cond.fieldLink RX3 22 "LiveUpgrader$Frame" "pins" "I", Cond.methodLink RL 95 yX7_create, Cond.instanceMethod yX7_create, Cond.selects RX7 yX7_create yX7_create, Cond.code yX7_create cX7_create 5 (some .int), Cond.methodLink RX7 108 yX7_cell, Cond.static yX7_cell, Cond.code yX7_cell cX7_cell 3 (some .int), Cond.methodLink RL 96 yX6_read, Cond.instanceMethod yX6_read, Cond.selects RX6 yX6_read yX6_read, Cond.code yX6_read cX6_read 4 (some .int), Cond.methodLink RX6 146 yX6_access, Cond.instanceMethod yX6_access, Cond.selects RX6 yX6_access yX6_access, Cond.code yX6_access cX6_access 7 (some .int), Cond.constant RX6 156 (-2000004), Cond.constant RX6 188 (-2000011), Cond.constant RX6 189 (-2000012), Cond.constant RX6 190 (-2000013), Cond.constant RX6 191 (-2000014)]
def wsL_law_r20 : List Cond := [Cond.methodLink RX6 149 yX6_existingObject, Cond.instanceMethod yX6_existingObject, Cond.selects RX6 yX6_existingObject yX6_existingObject, Cond.code yX6_existingObject cX6_existingObject 2 (some (.object "LiveUpgrader$StoredObject")), Cond.methodLink RX6 165 yX6_smallestPin, Cond.instanceMethod yX6_smallestPin, Cond.selects RX6 yX6_smallestPin yX6_smallestPin, Cond.code yX6_smallestPin cX6_smallestPin 4 (some .int), Cond.methodLink RX6 182 Lib.Math.min.name, Cond.static Lib.Math.min.name, Cond.initialized "java/lang/Math", Cond.code Lib.Math.min.name Lib.Math.min.code 2 (some .int), Cond.methodLink RX6 181 yX0_smallestPin, Cond.instanceMethod yX0_smallestPin, Cond.selects RX0 yX0_smallestPin yX0_smallestPin, Cond.code yX0_smallestPin cX0_smallestPin 4 (some .int), Cond.methodLink RX0 46 Lib.Math.min.name, Cond.methodLink RX0 42 yX3_pins, Cond.instanceMethod yX3_pins, Cond.selects RX3 yX3_pins yX3_pins, Cond.code yX3_pins cX3_pins 2 (some .boolean), Cond.methodLink RX6 173 yX5_convertTo, Cond.instanceMethod yX5_convertTo, Cond.selects RX5 yX5_convertTo yX5_convertTo]
def wsL_law_r21 : List Cond := [Cond.code yX5_convertTo cX5_convertTo 3 (some .boolean), Cond.methodLink RX5 27 arraycopyName, Cond.native arraycopyName, Cond.static arraycopyName, Cond.initialized "java/lang/System", Cond.methodLink RX5 39 yX2_applyTo, Cond.instanceMethod yX2_applyTo, Cond.selects RX2 yX2_applyTo yX2_applyTo, Cond.code yX2_applyTo cX2_applyTo 3 (some .boolean), Cond.methodLink RX2 26 yX4_applyTo, Cond.instanceMethod yX4_applyTo, Cond.selects RX4 yX4_applyTo yX4_applyTo, Cond.code yX4_applyTo cX4_applyTo 2 (some .boolean), Cond.methodLink RX4 19 yX4_put, Cond.static yX4_put, Cond.code yX4_put cX4_put 4 (some .boolean), Cond.methodLink RX6 159 yX5_valueOf, Cond.instanceMethod yX5_valueOf, Cond.selects RX5 yX5_valueOf yX5_valueOf, Cond.code yX5_valueOf cX5_valueOf 2 (some .int), Cond.methodLink RL 99 yX7_read, Cond.instanceMethod yX7_read, Cond.selects RX7 yX7_read yX7_read, Cond.code yX7_read cX7_read 5 (some .int)]
def wsL_law_r22 : List Cond := [Cond.methodLink RX7 135 yX7_access, Cond.instanceMethod yX7_access, Cond.selects RX7 yX7_access yX7_access, Cond.code yX7_access cX7_access 6 (some .int), Cond.constant RX7 124 (-2000004), Cond.constant RX7 125 (-2000011), Cond.constant RX7 126 (-2000012), Cond.constant RX7 130 (-2000013), Cond.constant RX7 134 (-2000014), Cond.methodLink RX7 121 yX7_isObject, Cond.instanceMethod yX7_isObject, Cond.selects RX7 yX7_isObject yX7_isObject, Cond.code yX7_isObject cX7_isObject 2 (some .boolean), Cond.methodLink RX7 127 yX7_isHeldBelow, Cond.instanceMethod yX7_isHeldBelow, Cond.selects RX7 yX7_isHeldBelow yX7_isHeldBelow, Cond.code yX7_isHeldBelow cX7_isHeldBelow 5 (some .boolean), Cond.methodLink RX7 131 yX7_convert, Cond.instanceMethod yX7_convert, Cond.selects RX7 yX7_convert yX7_convert, Cond.code yX7_convert cX7_convert 5 (some .boolean), Cond.methodLink RX7 118 yX7_convertOnce, Cond.instanceMethod yX7_convertOnce, Cond.selects RX7 yX7_convertOnce yX7_convertOnce]
def wsL_law_r23 : List Cond := [Cond.code yX7_convertOnce cX7_convertOnce 10 (some .boolean), Cond.constantLong RX7 112 (1000000), Cond.constant RX7 114 (1000001), Cond.constantLong RX7 115 (-1000000), Cond.constant RX7 117 (-1000001), Cond.methodLink RL 100 yX6_write, Cond.instanceMethod yX6_write, Cond.selects RX6 yX6_write yX6_write, Cond.code yX6_write cX6_write 7 (some .int), Cond.methodLink RX6 153 yX5_putValue, Cond.instanceMethod yX5_putValue, Cond.selects RX5 yX5_putValue yX5_putValue, Cond.code yX5_putValue cX5_putValue 3 none, Cond.methodLink RL 104 yX7_write, Cond.instanceMethod yX7_write, Cond.selects RX7 yX7_write yX7_write, Cond.code yX7_write cX7_write 8 (some .int), Cond.methodLink RL 105 yX6_peek, Cond.instanceMethod yX6_peek, Cond.selects RX6 yX6_peek yX6_peek, Cond.code yX6_peek cX6_peek 4 (some .int), Cond.methodLink RL 108 yX7_peek, Cond.instanceMethod yX7_peek, Cond.selects RX7 yX7_peek yX7_peek]
def wsL_law_r24 : List Cond := [Cond.code yX7_peek cX7_peek 4 (some .int), Cond.methodLink RL 109 yX6_objectVersion, Cond.instanceMethod yX6_objectVersion, Cond.selects RX6 yX6_objectVersion yX6_objectVersion, Cond.code yX6_objectVersion cX6_objectVersion 3 (some .int), Cond.methodLink RL 112 yX7_objectVersion, Cond.instanceMethod yX7_objectVersion, Cond.selects RX7 yX7_objectVersion yX7_objectVersion, Cond.code yX7_objectVersion cX7_objectVersion 2 (some .int), Cond.methodLink RL 113 yX6_conversions, Cond.instanceMethod yX6_conversions, Cond.selects RX6 yX6_conversions yX6_conversions, Cond.code yX6_conversions cX6_conversions 3 (some .int), Cond.methodLink RL 116 yX7_conversions, Cond.instanceMethod yX7_conversions, Cond.selects RX7 yX7_conversions yX7_conversions, Cond.code yX7_conversions cX7_conversions 2 (some .int), Cond.methodLink RL 117 yX6_pinnedBy, Cond.instanceMethod yX6_pinnedBy, Cond.selects RX6 yX6_pinnedBy yX6_pinnedBy, Cond.code yX6_pinnedBy cX6_pinnedBy 3 (some .int), Cond.constant RX6 168 (-2000016), Cond.methodLink RL 120 yX7_pinnedBy, Cond.instanceMethod yX7_pinnedBy]
def wsL_law_r25 : List Cond := [Cond.selects RX7 yX7_pinnedBy yX7_pinnedBy, Cond.code yX7_pinnedBy cX7_pinnedBy 5 (some .int), Cond.constant RX7 138 (-2000016), Cond.methodLink RL 121 yX6_outdated, Cond.instanceMethod yX6_outdated, Cond.selects RX6 yX6_outdated yX6_outdated, Cond.code yX6_outdated cX6_outdated 5 (some .int), Cond.methodLink RX6 169 yX6_outdatedObject, Cond.instanceMethod yX6_outdatedObject, Cond.selects RX6 yX6_outdatedObject yX6_outdatedObject, Cond.code yX6_outdatedObject cX6_outdatedObject 4 (some (.object "LiveUpgrader$StoredObject")), Cond.methodLink RL 124 yX7_outdated, Cond.instanceMethod yX7_outdated, Cond.selects RX7 yX7_outdated yX7_outdated, Cond.code yX7_outdated cX7_outdated 4 (some .int), Cond.methodLink RL 125 yX6_convertAll, Cond.instanceMethod yX6_convertAll, Cond.selects RX6 yX6_convertAll yX6_convertAll, Cond.code yX6_convertAll cX6_convertAll 6 (some .int), Cond.methodLink RL 128 yX7_convertAll, Cond.instanceMethod yX7_convertAll, Cond.selects RX7 yX7_convertAll yX7_convertAll, Cond.code yX7_convertAll cX7_convertAll 6 (some .int)]
def wsL_law : List Cond := (wsL_law_r1 ++ (wsL_law_r2 ++ (wsL_law_r3 ++ (wsL_law_r4 ++ (wsL_law_r5 ++ (wsL_law_r6 ++ (wsL_law_r7 ++ (wsL_law_r8 ++ (wsL_law_r9 ++ (wsL_law_r10 ++ (wsL_law_r11 ++ (wsL_law_r12 ++ (wsL_law_r13 ++ (wsL_law_r14 ++ (wsL_law_r15 ++ (wsL_law_r16 ++ (wsL_law_r17 ++ (wsL_law_r18 ++ (wsL_law_r19 ++ (wsL_law_r20 ++ (wsL_law_r21 ++ (wsL_law_r22 ++ (wsL_law_r23 ++ (wsL_law_r24 ++ wsL_law_r25)))))))))))))))))))))))) ++ wsX60 ++ wsX70 ++ wsX00 ++ wsX10 ++ wsX20 ++ wsX40 ++ wsX30 ++ wsX50 ++ ([] : List Cond)
abbrev vwCl : List vw_C := [(RX0, TX0, 2), (RX1, TX1, 5), (RX2, TX2, 2), (RX3, TX3, 3), (RX4, TX4, 3), (RX5, TX5, 4), (RX6, TX6, 5), (RX7, TX7, 12)]
end
section
theorem dX3_init_0 : decode cX3_init 0 = .ok (.aload_n 0, 1) := by decide +kernel
theorem dX3_init_1 : decode cX3_init 1 = .ok (.invokespecial 1, 3) := by decide +kernel
theorem dX3_init_4 : decode cX3_init 4 = .ok (.aload_n 0, 1) := by decide +kernel
theorem dX3_init_5 : decode cX3_init 5 = .ok (.aload_n 1, 1) := by decide +kernel
theorem dX3_init_6 : decode cX3_init 6 = .ok (.putfield 7, 3) := by decide +kernel
theorem dX3_init_9 : decode cX3_init 9 = .ok (.aload_n 0, 1) := by decide +kernel
theorem dX3_init_10 : decode cX3_init 10 = .ok (.aload_n 1, 1) := by decide +kernel
theorem dX3_init_11 : decode cX3_init 11 = .ok (.getfield 13, 3) := by decide +kernel
theorem dX3_init_14 : decode cX3_init 14 = .ok (.putfield 19, 3) := by decide +kernel
theorem dX3_init_17 : decode cX3_init 17 = .ok (.return_, 1) := by decide +kernel
theorem dX3_pin_0 : decode cX3_pin 0 = .ok (.aload_n 0, 1) := by decide +kernel
theorem dX3_pin_1 : decode cX3_pin 1 = .ok (.dup, 1) := by decide +kernel
theorem dX3_pin_2 : decode cX3_pin 2 = .ok (.getfield 22, 3) := by decide +kernel
theorem dX3_pin_5 : decode cX3_pin 5 = .ok (.iconst 1, 1) := by decide +kernel
theorem dX3_pin_6 : decode cX3_pin 6 = .ok (.iload_n 1, 1) := by decide +kernel
theorem dX3_pin_7 : decode cX3_pin 7 = .ok (.ishl, 1) := by decide +kernel
theorem dX3_pin_8 : decode cX3_pin 8 = .ok (.ior, 1) := by decide +kernel
theorem dX3_pin_9 : decode cX3_pin 9 = .ok (.putfield 22, 3) := by decide +kernel
theorem dX3_pin_12 : decode cX3_pin 12 = .ok (.return_, 1) := by decide +kernel
theorem dX3_pins_0 : decode cX3_pins 0 = .ok (.aload_n 0, 1) := by decide +kernel
theorem dX3_pins_1 : decode cX3_pins 1 = .ok (.getfield 22, 3) := by decide +kernel
theorem dX3_pins_4 : decode cX3_pins 4 = .ok (.iload_n 1, 1) := by decide +kernel
theorem dX3_pins_5 : decode cX3_pins 5 = .ok (.ishr, 1) := by decide +kernel
theorem dX3_pins_6 : decode cX3_pins 6 = .ok (.iconst 1, 1) := by decide +kernel
theorem dX3_pins_7 : decode cX3_pins 7 = .ok (.iand, 1) := by decide +kernel
theorem dX3_pins_8 : decode cX3_pins 8 = .ok (.iconst 1, 1) := by decide +kernel
theorem dX3_pins_9 : decode cX3_pins 9 = .ok (.if_icmp .ne 7, 3) := by decide +kernel
theorem dX3_pins_12 : decode cX3_pins 12 = .ok (.iconst 1, 1) := by decide +kernel
theorem dX3_pins_13 : decode cX3_pins 13 = .ok (.goto 4, 3) := by decide +kernel
theorem dX3_pins_16 : decode cX3_pins 16 = .ok (.iconst 0, 1) := by decide +kernel
theorem dX3_pins_17 : decode cX3_pins 17 = .ok (.ireturn, 1) := by decide +kernel
theorem dX0_init_0 : decode cX0_init 0 = .ok (.aload_n 0, 1) := by decide +kernel
theorem dX0_init_1 : decode cX0_init 1 = .ok (.invokespecial 3, 3) := by decide +kernel
theorem dX0_init_4 : decode cX0_init 4 = .ok (.aload_n 0, 1) := by decide +kernel
theorem dX0_init_5 : decode cX0_init 5 = .ok (.bipush 8, 2) := by decide +kernel
theorem dX0_init_7 : decode cX0_init 7 = .ok (.anewarray 9, 3) := by decide +kernel
theorem dX0_init_10 : decode cX0_init 10 = .ok (.putfield 11, 3) := by decide +kernel
theorem dX0_init_13 : decode cX0_init 13 = .ok (.return_, 1) := by decide +kernel
set_option maxRecDepth 20000 in
theorem ggX0_push_X3_init : GoodIn wsX0_push wsX3_init := goodIn_r _ [9, 10, 11, 12, 13, 14, 17, 18, 19, 20, 21, 22, 23, 24] (by decide +kernel) (by decide +kernel)
set_option maxRecDepth 20000 in
theorem gX0_push_X3_init : GoodIn wsX0_push (wsX3_init) := ggX0_push_X3_init
theorem dX0_push_0 : decode cX0_push 0 = .ok (.aload_n 0, 1) := by decide +kernel
theorem dX0_push_1 : decode cX0_push 1 = .ok (.getfield 17, 3) := by decide +kernel
theorem dX0_push_4 : decode cX0_push 4 = .ok (.bipush 8, 2) := by decide +kernel
theorem dX0_push_6 : decode cX0_push 6 = .ok (.if_icmp .lt 6, 3) := by decide +kernel
theorem dX0_push_9 : decode cX0_push 9 = .ok (.ldc 21, 2) := by decide +kernel
theorem dX0_push_11 : decode cX0_push 11 = .ok (.ireturn, 1) := by decide +kernel
theorem dX0_push_12 : decode cX0_push 12 = .ok (.aload_n 0, 1) := by decide +kernel
theorem dX0_push_13 : decode cX0_push 13 = .ok (.getfield 11, 3) := by decide +kernel
theorem dX0_push_16 : decode cX0_push 16 = .ok (.aload_n 0, 1) := by decide +kernel
theorem dX0_push_17 : decode cX0_push 17 = .ok (.getfield 17, 3) := by decide +kernel
theorem dX0_push_20 : decode cX0_push 20 = .ok (.new 9, 3) := by decide +kernel
theorem dX0_push_23 : decode cX0_push 23 = .ok (.dup, 1) := by decide +kernel
theorem dX0_push_24 : decode cX0_push 24 = .ok (.aload_n 1, 1) := by decide +kernel
theorem dX0_push_25 : decode cX0_push 25 = .ok (.invokespecial 22, 3) := by decide +kernel
theorem dX0_push_28 : decode cX0_push 28 = .ok (.aastore, 1) := by decide +kernel
theorem dX0_push_29 : decode cX0_push 29 = .ok (.aload_n 0, 1) := by decide +kernel
theorem dX0_push_30 : decode cX0_push 30 = .ok (.dup, 1) := by decide +kernel
theorem dX0_push_31 : decode cX0_push 31 = .ok (.getfield 17, 3) := by decide +kernel
theorem dX0_push_34 : decode cX0_push 34 = .ok (.iconst 1, 1) := by decide +kernel
theorem dX0_push_35 : decode cX0_push 35 = .ok (.iadd, 1) := by decide +kernel
theorem dX0_push_36 : decode cX0_push 36 = .ok (.putfield 17, 3) := by decide +kernel
theorem dX0_push_39 : decode cX0_push 39 = .ok (.aload_n 0, 1) := by decide +kernel
theorem dX0_push_40 : decode cX0_push 40 = .ok (.getfield 17, 3) := by decide +kernel
theorem dX0_push_43 : decode cX0_push 43 = .ok (.ireturn, 1) := by decide +kernel
theorem dX0_pop_0 : decode cX0_pop 0 = .ok (.aload_n 0, 1) := by decide +kernel
theorem dX0_pop_1 : decode cX0_pop 1 = .ok (.getfield 17, 3) := by decide +kernel
theorem dX0_pop_4 : decode cX0_pop 4 = .ok (.ifCond .gt 6, 3) := by decide +kernel
theorem dX0_pop_7 : decode cX0_pop 7 = .ok (.ldc 25, 2) := by decide +kernel
theorem dX0_pop_9 : decode cX0_pop 9 = .ok (.ireturn, 1) := by decide +kernel
theorem dX0_pop_10 : decode cX0_pop 10 = .ok (.aload_n 0, 1) := by decide +kernel
theorem dX0_pop_11 : decode cX0_pop 11 = .ok (.dup, 1) := by decide +kernel
theorem dX0_pop_12 : decode cX0_pop 12 = .ok (.getfield 17, 3) := by decide +kernel
theorem dX0_pop_15 : decode cX0_pop 15 = .ok (.iconst 1, 1) := by decide +kernel
theorem dX0_pop_16 : decode cX0_pop 16 = .ok (.isub, 1) := by decide +kernel
theorem dX0_pop_17 : decode cX0_pop 17 = .ok (.putfield 17, 3) := by decide +kernel
theorem dX0_pop_20 : decode cX0_pop 20 = .ok (.aload_n 0, 1) := by decide +kernel
theorem dX0_pop_21 : decode cX0_pop 21 = .ok (.getfield 11, 3) := by decide +kernel
theorem dX0_pop_24 : decode cX0_pop 24 = .ok (.aload_n 0, 1) := by decide +kernel
theorem dX0_pop_25 : decode cX0_pop 25 = .ok (.getfield 17, 3) := by decide +kernel
theorem dX0_pop_28 : decode cX0_pop 28 = .ok (.aconst_null, 1) := by decide +kernel
theorem dX0_pop_29 : decode cX0_pop 29 = .ok (.aastore, 1) := by decide +kernel
theorem dX0_pop_30 : decode cX0_pop 30 = .ok (.aload_n 0, 1) := by decide +kernel
theorem dX0_pop_31 : decode cX0_pop 31 = .ok (.getfield 17, 3) := by decide +kernel
theorem dX0_pop_34 : decode cX0_pop 34 = .ok (.ireturn, 1) := by decide +kernel
theorem dX0_frameAt_0 : decode cX0_frameAt 0 = .ok (.iload_n 1, 1) := by decide +kernel
theorem dX0_frameAt_1 : decode cX0_frameAt 1 = .ok (.ifCond .lt 11, 3) := by decide +kernel
theorem dX0_frameAt_4 : decode cX0_frameAt 4 = .ok (.iload_n 1, 1) := by decide +kernel
theorem dX0_frameAt_5 : decode cX0_frameAt 5 = .ok (.aload_n 0, 1) := by decide +kernel
theorem dX0_frameAt_6 : decode cX0_frameAt 6 = .ok (.getfield 17, 3) := by decide +kernel
theorem dX0_frameAt_9 : decode cX0_frameAt 9 = .ok (.if_icmp .lt 5, 3) := by decide +kernel
theorem dX0_frameAt_12 : decode cX0_frameAt 12 = .ok (.aconst_null, 1) := by decide +kernel
theorem dX0_frameAt_13 : decode cX0_frameAt 13 = .ok (.areturn, 1) := by decide +kernel
theorem dX0_frameAt_14 : decode cX0_frameAt 14 = .ok (.aload_n 0, 1) := by decide +kernel
theorem dX0_frameAt_15 : decode cX0_frameAt 15 = .ok (.getfield 11, 3) := by decide +kernel
theorem dX0_frameAt_18 : decode cX0_frameAt 18 = .ok (.iload_n 1, 1) := by decide +kernel
theorem dX0_frameAt_19 : decode cX0_frameAt 19 = .ok (.aaload, 1) := by decide +kernel
theorem dX0_frameAt_20 : decode cX0_frameAt 20 = .ok (.areturn, 1) := by decide +kernel
set_option maxRecDepth 20000 in
theorem ggX0_top_X0_frameAt : GoodIn wsX0_top wsX0_frameAt := goodIn_r _ [6, 1, 7, 8, 9] (by decide +kernel) (by decide +kernel)
set_option maxRecDepth 20000 in
theorem gX0_top_X0_frameAt : GoodIn wsX0_top (wsV RX0 26 RX0 yX0_frameAt wsX0_frameAt) := goodIn_app (goodIn_of _ (by decide +kernel)) ggX0_top_X0_frameAt
theorem dX0_top_0 : decode cX0_top 0 = .ok (.aload_n 0, 1) := by decide +kernel
theorem dX0_top_1 : decode cX0_top 1 = .ok (.aload_n 0, 1) := by decide +kernel
theorem dX0_top_2 : decode cX0_top 2 = .ok (.getfield 17, 3) := by decide +kernel
theorem dX0_top_5 : decode cX0_top 5 = .ok (.iconst 1, 1) := by decide +kernel
theorem dX0_top_6 : decode cX0_top 6 = .ok (.isub, 1) := by decide +kernel
theorem dX0_top_7 : decode cX0_top 7 = .ok (.invokevirtual 26, 3) := by decide +kernel
theorem dX0_top_10 : decode cX0_top 10 = .ok (.areturn, 1) := by decide +kernel
theorem dX0_countFrames_0 : decode cX0_countFrames 0 = .ok (.iconst 0, 1) := by decide +kernel
theorem dX0_countFrames_1 : decode cX0_countFrames 1 = .ok (.istore 4, 2) := by decide +kernel
theorem dX0_countFrames_3 : decode cX0_countFrames 3 = .ok (.iconst 0, 1) := by decide +kernel
theorem dX0_countFrames_4 : decode cX0_countFrames 4 = .ok (.istore 5, 2) := by decide +kernel
theorem dX0_countFrames_6 : decode cX0_countFrames 6 = .ok (.iload 5, 2) := by decide +kernel
theorem dX0_countFrames_8 : decode cX0_countFrames 8 = .ok (.aload_n 0, 1) := by decide +kernel
theorem dX0_countFrames_9 : decode cX0_countFrames 9 = .ok (.getfield 17, 3) := by decide +kernel
theorem dX0_countFrames_12 : decode cX0_countFrames 12 = .ok (.if_icmp .ge 51, 3) := by decide +kernel
theorem dX0_countFrames_15 : decode cX0_countFrames 15 = .ok (.aload_n 0, 1) := by decide +kernel
theorem dX0_countFrames_16 : decode cX0_countFrames 16 = .ok (.getfield 11, 3) := by decide +kernel
theorem dX0_countFrames_19 : decode cX0_countFrames 19 = .ok (.iload 5, 2) := by decide +kernel
theorem dX0_countFrames_21 : decode cX0_countFrames 21 = .ok (.aaload, 1) := by decide +kernel
theorem dX0_countFrames_22 : decode cX0_countFrames 22 = .ok (.astore 6, 2) := by decide +kernel
theorem dX0_countFrames_24 : decode cX0_countFrames 24 = .ok (.aload 6, 2) := by decide +kernel
theorem dX0_countFrames_26 : decode cX0_countFrames 26 = .ok (.getfield 30, 3) := by decide +kernel
theorem dX0_countFrames_29 : decode cX0_countFrames 29 = .ok (.getfield 34, 3) := by decide +kernel
theorem dX0_countFrames_32 : decode cX0_countFrames 32 = .ok (.iload_n 1, 1) := by decide +kernel
theorem dX0_countFrames_33 : decode cX0_countFrames 33 = .ok (.if_icmp .ne 24, 3) := by decide +kernel
theorem dX0_countFrames_36 : decode cX0_countFrames 36 = .ok (.aload 6, 2) := by decide +kernel
theorem dX0_countFrames_38 : decode cX0_countFrames 38 = .ok (.getfield 39, 3) := by decide +kernel
theorem dX0_countFrames_41 : decode cX0_countFrames 41 = .ok (.iload_n 2, 1) := by decide +kernel
theorem dX0_countFrames_42 : decode cX0_countFrames 42 = .ok (.if_icmp .lt 15, 3) := by decide +kernel
theorem dX0_countFrames_45 : decode cX0_countFrames 45 = .ok (.aload 6, 2) := by decide +kernel
theorem dX0_countFrames_47 : decode cX0_countFrames 47 = .ok (.getfield 39, 3) := by decide +kernel
theorem dX0_countFrames_50 : decode cX0_countFrames 50 = .ok (.iload_n 3, 1) := by decide +kernel
theorem dX0_countFrames_51 : decode cX0_countFrames 51 = .ok (.if_icmp .gt 6, 3) := by decide +kernel
theorem dX0_countFrames_54 : decode cX0_countFrames 54 = .ok (.iinc 4 1, 3) := by decide +kernel
theorem dX0_countFrames_57 : decode cX0_countFrames 57 = .ok (.iinc 5 1, 3) := by decide +kernel
theorem dX0_countFrames_60 : decode cX0_countFrames 60 = .ok (.goto (-54), 3) := by decide +kernel
theorem dX0_countFrames_63 : decode cX0_countFrames 63 = .ok (.iload 4, 2) := by decide +kernel
theorem dX0_countFrames_65 : decode cX0_countFrames 65 = .ok (.ireturn, 1) := by decide +kernel
set_option maxRecDepth 20000 in
theorem ggX0_smallestPin_X3_pins : GoodIn wsX0_smallestPin wsX3_pins := goodIn_r _ [11, 12, 15, 16, 17] (by decide +kernel) (by decide +kernel)
set_option maxRecDepth 20000 in
theorem gX0_smallestPin_X3_pins : GoodIn wsX0_smallestPin (wsV RX0 42 RX3 yX3_pins wsX3_pins) := goodIn_app (goodIn_of _ (by decide +kernel)) ggX0_smallestPin_X3_pins
theorem dX0_smallestPin_0 : decode cX0_smallestPin 0 = .ok (.bipush 8, 2) := by decide +kernel
theorem dX0_smallestPin_2 : decode cX0_smallestPin 2 = .ok (.istore_n 2, 1) := by decide +kernel
theorem dX0_smallestPin_3 : decode cX0_smallestPin 3 = .ok (.iconst 0, 1) := by decide +kernel
theorem dX0_smallestPin_4 : decode cX0_smallestPin 4 = .ok (.istore_n 3, 1) := by decide +kernel
theorem dX0_smallestPin_5 : decode cX0_smallestPin 5 = .ok (.iload_n 3, 1) := by decide +kernel
theorem dX0_smallestPin_6 : decode cX0_smallestPin 6 = .ok (.aload_n 0, 1) := by decide +kernel
theorem dX0_smallestPin_7 : decode cX0_smallestPin 7 = .ok (.getfield 17, 3) := by decide +kernel
theorem dX0_smallestPin_10 : decode cX0_smallestPin 10 = .ok (.if_icmp .ge 36, 3) := by decide +kernel
theorem dX0_smallestPin_13 : decode cX0_smallestPin 13 = .ok (.aload_n 0, 1) := by decide +kernel
theorem dX0_smallestPin_14 : decode cX0_smallestPin 14 = .ok (.getfield 11, 3) := by decide +kernel
theorem dX0_smallestPin_17 : decode cX0_smallestPin 17 = .ok (.iload_n 3, 1) := by decide +kernel
theorem dX0_smallestPin_18 : decode cX0_smallestPin 18 = .ok (.aaload, 1) := by decide +kernel
theorem dX0_smallestPin_19 : decode cX0_smallestPin 19 = .ok (.iload_n 1, 1) := by decide +kernel
theorem dX0_smallestPin_20 : decode cX0_smallestPin 20 = .ok (.invokevirtual 42, 3) := by decide +kernel
theorem dX0_smallestPin_23 : decode cX0_smallestPin 23 = .ok (.ifCond .eq 17, 3) := by decide +kernel
theorem dX0_smallestPin_26 : decode cX0_smallestPin 26 = .ok (.iload_n 2, 1) := by decide +kernel
theorem dX0_smallestPin_27 : decode cX0_smallestPin 27 = .ok (.aload_n 0, 1) := by decide +kernel
theorem dX0_smallestPin_28 : decode cX0_smallestPin 28 = .ok (.getfield 11, 3) := by decide +kernel
theorem dX0_smallestPin_31 : decode cX0_smallestPin 31 = .ok (.iload_n 3, 1) := by decide +kernel
theorem dX0_smallestPin_32 : decode cX0_smallestPin 32 = .ok (.aaload, 1) := by decide +kernel
theorem dX0_smallestPin_33 : decode cX0_smallestPin 33 = .ok (.getfield 39, 3) := by decide +kernel
theorem dX0_smallestPin_36 : decode cX0_smallestPin 36 = .ok (.invokestatic 46, 3) := by decide +kernel
theorem dX0_smallestPin_39 : decode cX0_smallestPin 39 = .ok (.istore_n 2, 1) := by decide +kernel
theorem dX0_smallestPin_40 : decode cX0_smallestPin 40 = .ok (.iinc 3 1, 3) := by decide +kernel
theorem dX0_smallestPin_43 : decode cX0_smallestPin 43 = .ok (.goto (-38), 3) := by decide +kernel
theorem dX0_smallestPin_46 : decode cX0_smallestPin 46 = .ok (.iload_n 2, 1) := by decide +kernel
theorem dX0_smallestPin_47 : decode cX0_smallestPin 47 = .ok (.ireturn, 1) := by decide +kernel
theorem dX2_init_0 : decode cX2_init 0 = .ok (.aload_n 0, 1) := by decide +kernel
theorem dX2_init_1 : decode cX2_init 1 = .ok (.invokespecial 3, 3) := by decide +kernel
theorem dX2_init_4 : decode cX2_init 4 = .ok (.aload_n 0, 1) := by decide +kernel
theorem dX2_init_5 : decode cX2_init 5 = .ok (.bipush 6, 2) := by decide +kernel
theorem dX2_init_7 : decode cX2_init 7 = .ok (.anewarray 9, 3) := by decide +kernel
theorem dX2_init_10 : decode cX2_init 10 = .ok (.putfield 11, 3) := by decide +kernel
theorem dX2_init_13 : decode cX2_init 13 = .ok (.return_, 1) := by decide +kernel
theorem dX2_clear_0 : decode cX2_clear 0 = .ok (.aload_n 0, 1) := by decide +kernel
theorem dX2_clear_1 : decode cX2_clear 1 = .ok (.iconst 0, 1) := by decide +kernel
theorem dX2_clear_2 : decode cX2_clear 2 = .ok (.putfield 17, 3) := by decide +kernel
theorem dX2_clear_5 : decode cX2_clear 5 = .ok (.return_, 1) := by decide +kernel
theorem dX2_isFull_0 : decode cX2_isFull 0 = .ok (.aload_n 0, 1) := by decide +kernel
theorem dX2_isFull_1 : decode cX2_isFull 1 = .ok (.getfield 17, 3) := by decide +kernel
theorem dX2_isFull_4 : decode cX2_isFull 4 = .ok (.bipush 6, 2) := by decide +kernel
theorem dX2_isFull_6 : decode cX2_isFull 6 = .ok (.if_icmp .lt 7, 3) := by decide +kernel
theorem dX2_isFull_9 : decode cX2_isFull 9 = .ok (.iconst 1, 1) := by decide +kernel
theorem dX2_isFull_10 : decode cX2_isFull 10 = .ok (.goto 4, 3) := by decide +kernel
theorem dX2_isFull_13 : decode cX2_isFull 13 = .ok (.iconst 0, 1) := by decide +kernel
theorem dX2_isFull_14 : decode cX2_isFull 14 = .ok (.ireturn, 1) := by decide +kernel
set_option maxRecDepth 20000 in
theorem ggX2_append_X2_isFull : GoodIn wsX2_append wsX2_isFull := goodIn_r _ [8, 3, 9, 10] (by decide +kernel) (by decide +kernel)
set_option maxRecDepth 20000 in
theorem gX2_append_X2_isFull : GoodIn wsX2_append (wsV RX2 21 RX2 yX2_isFull wsX2_isFull) := goodIn_app (goodIn_of _ (by decide +kernel)) ggX2_append_X2_isFull
theorem dX2_append_0 : decode cX2_append 0 = .ok (.aload_n 0, 1) := by decide +kernel
theorem dX2_append_1 : decode cX2_append 1 = .ok (.invokevirtual 21, 3) := by decide +kernel
theorem dX2_append_4 : decode cX2_append 4 = .ok (.ifCond .eq 6, 3) := by decide +kernel
theorem dX2_append_7 : decode cX2_append 7 = .ok (.ldc 25, 2) := by decide +kernel
theorem dX2_append_9 : decode cX2_append 9 = .ok (.ireturn, 1) := by decide +kernel
theorem dX2_append_10 : decode cX2_append 10 = .ok (.aload_n 0, 1) := by decide +kernel
theorem dX2_append_11 : decode cX2_append 11 = .ok (.getfield 11, 3) := by decide +kernel
theorem dX2_append_14 : decode cX2_append 14 = .ok (.aload_n 0, 1) := by decide +kernel
theorem dX2_append_15 : decode cX2_append 15 = .ok (.getfield 17, 3) := by decide +kernel
theorem dX2_append_18 : decode cX2_append 18 = .ok (.aload_n 1, 1) := by decide +kernel
theorem dX2_append_19 : decode cX2_append 19 = .ok (.aastore, 1) := by decide +kernel
theorem dX2_append_20 : decode cX2_append 20 = .ok (.aload_n 0, 1) := by decide +kernel
theorem dX2_append_21 : decode cX2_append 21 = .ok (.dup, 1) := by decide +kernel
theorem dX2_append_22 : decode cX2_append 22 = .ok (.getfield 17, 3) := by decide +kernel
theorem dX2_append_25 : decode cX2_append 25 = .ok (.iconst 1, 1) := by decide +kernel
theorem dX2_append_26 : decode cX2_append 26 = .ok (.iadd, 1) := by decide +kernel
theorem dX2_append_27 : decode cX2_append 27 = .ok (.putfield 17, 3) := by decide +kernel
theorem dX2_append_30 : decode cX2_append 30 = .ok (.aload_n 0, 1) := by decide +kernel
theorem dX2_append_31 : decode cX2_append 31 = .ok (.getfield 17, 3) := by decide +kernel
theorem dX2_append_34 : decode cX2_append 34 = .ok (.ireturn, 1) := by decide +kernel
set_option maxRecDepth 20000 in
theorem ggX2_applyTo_X4_applyTo : GoodIn wsX2_applyTo wsX4_applyTo := goodIn_r _ [7, 8, 9, 10, 11, 12, 6, 13, 14, 15, 16, 17, 18, 19, 20, 23, 24, 25] (by decide +kernel) (by decide +kernel)
set_option maxRecDepth 20000 in
theorem gX2_applyTo_X4_applyTo : GoodIn wsX2_applyTo (wsV RX2 26 RX4 yX4_applyTo wsX4_applyTo) := goodIn_app (goodIn_of _ (by decide +kernel)) ggX2_applyTo_X4_applyTo
theorem dX2_applyTo_0 : decode cX2_applyTo 0 = .ok (.iconst 0, 1) := by decide +kernel
theorem dX2_applyTo_1 : decode cX2_applyTo 1 = .ok (.istore_n 2, 1) := by decide +kernel
theorem dX2_applyTo_2 : decode cX2_applyTo 2 = .ok (.iload_n 2, 1) := by decide +kernel
theorem dX2_applyTo_3 : decode cX2_applyTo 3 = .ok (.aload_n 0, 1) := by decide +kernel
theorem dX2_applyTo_4 : decode cX2_applyTo 4 = .ok (.getfield 17, 3) := by decide +kernel
theorem dX2_applyTo_7 : decode cX2_applyTo 7 = .ok (.if_icmp .ge 24, 3) := by decide +kernel
theorem dX2_applyTo_10 : decode cX2_applyTo 10 = .ok (.aload_n 0, 1) := by decide +kernel
theorem dX2_applyTo_11 : decode cX2_applyTo 11 = .ok (.getfield 11, 3) := by decide +kernel
theorem dX2_applyTo_14 : decode cX2_applyTo 14 = .ok (.iload_n 2, 1) := by decide +kernel
theorem dX2_applyTo_15 : decode cX2_applyTo 15 = .ok (.aaload, 1) := by decide +kernel
theorem dX2_applyTo_16 : decode cX2_applyTo 16 = .ok (.aload_n 1, 1) := by decide +kernel
theorem dX2_applyTo_17 : decode cX2_applyTo 17 = .ok (.invokevirtual 26, 3) := by decide +kernel
theorem dX2_applyTo_20 : decode cX2_applyTo 20 = .ok (.ifCond .ne 5, 3) := by decide +kernel
theorem dX2_applyTo_23 : decode cX2_applyTo 23 = .ok (.iconst 0, 1) := by decide +kernel
theorem dX2_applyTo_24 : decode cX2_applyTo 24 = .ok (.ireturn, 1) := by decide +kernel
theorem dX2_applyTo_25 : decode cX2_applyTo 25 = .ok (.iinc 2 1, 3) := by decide +kernel
theorem dX2_applyTo_28 : decode cX2_applyTo 28 = .ok (.goto (-26), 3) := by decide +kernel
theorem dX2_applyTo_31 : decode cX2_applyTo 31 = .ok (.iconst 1, 1) := by decide +kernel
theorem dX2_applyTo_32 : decode cX2_applyTo 32 = .ok (.ireturn, 1) := by decide +kernel
theorem dX4_init_0 : decode cX4_init 0 = .ok (.aload_n 0, 1) := by decide +kernel
theorem dX4_init_1 : decode cX4_init 1 = .ok (.invokespecial 1, 3) := by decide +kernel
theorem dX4_init_4 : decode cX4_init 4 = .ok (.aload_n 0, 1) := by decide +kernel
theorem dX4_init_5 : decode cX4_init 5 = .ok (.iload_n 1, 1) := by decide +kernel
theorem dX4_init_6 : decode cX4_init 6 = .ok (.putfield 7, 3) := by decide +kernel
theorem dX4_init_9 : decode cX4_init 9 = .ok (.aload_n 0, 1) := by decide +kernel
theorem dX4_init_10 : decode cX4_init 10 = .ok (.iload_n 2, 1) := by decide +kernel
theorem dX4_init_11 : decode cX4_init 11 = .ok (.putfield 13, 3) := by decide +kernel
theorem dX4_init_14 : decode cX4_init 14 = .ok (.aload_n 0, 1) := by decide +kernel
theorem dX4_init_15 : decode cX4_init 15 = .ok (.iload_n 3, 1) := by decide +kernel
theorem dX4_init_16 : decode cX4_init 16 = .ok (.putfield 16, 3) := by decide +kernel
theorem dX4_init_19 : decode cX4_init 19 = .ok (.return_, 1) := by decide +kernel
theorem dX4_changedSet_0 : decode cX4_changedSet 0 = .ok (.aload_n 0, 1) := by decide +kernel
theorem dX4_changedSet_1 : decode cX4_changedSet 1 = .ok (.getfield 7, 3) := by decide +kernel
theorem dX4_changedSet_4 : decode cX4_changedSet 4 = .ok (.tableswitch 74 0 4 #[36, 63, 45, 74, 63], 36) := by decide +kernel
theorem dX4_changedSet_40 : decode cX4_changedSet 40 = .ok (.iload_n 1, 1) := by decide +kernel
theorem dX4_changedSet_41 : decode cX4_changedSet 41 = .ok (.iconst 1, 1) := by decide +kernel
theorem dX4_changedSet_42 : decode cX4_changedSet 42 = .ok (.aload_n 0, 1) := by decide +kernel
theorem dX4_changedSet_43 : decode cX4_changedSet 43 = .ok (.getfield 13, 3) := by decide +kernel
theorem dX4_changedSet_46 : decode cX4_changedSet 46 = .ok (.ishl, 1) := by decide +kernel
theorem dX4_changedSet_47 : decode cX4_changedSet 47 = .ok (.ior, 1) := by decide +kernel
theorem dX4_changedSet_48 : decode cX4_changedSet 48 = .ok (.ireturn, 1) := by decide +kernel
theorem dX4_changedSet_49 : decode cX4_changedSet 49 = .ok (.iload_n 1, 1) := by decide +kernel
theorem dX4_changedSet_50 : decode cX4_changedSet 50 = .ok (.iconst 1, 1) := by decide +kernel
theorem dX4_changedSet_51 : decode cX4_changedSet 51 = .ok (.aload_n 0, 1) := by decide +kernel
theorem dX4_changedSet_52 : decode cX4_changedSet 52 = .ok (.getfield 13, 3) := by decide +kernel
theorem dX4_changedSet_55 : decode cX4_changedSet 55 = .ok (.ishl, 1) := by decide +kernel
theorem dX4_changedSet_56 : decode cX4_changedSet 56 = .ok (.iconst (-1), 1) := by decide +kernel
theorem dX4_changedSet_57 : decode cX4_changedSet 57 = .ok (.ixor, 1) := by decide +kernel
theorem dX4_changedSet_58 : decode cX4_changedSet 58 = .ok (.iand, 1) := by decide +kernel
theorem dX4_changedSet_59 : decode cX4_changedSet 59 = .ok (.iconst 1, 1) := by decide +kernel
theorem dX4_changedSet_60 : decode cX4_changedSet 60 = .ok (.aload_n 0, 1) := by decide +kernel
theorem dX4_changedSet_61 : decode cX4_changedSet 61 = .ok (.getfield 16, 3) := by decide +kernel
theorem dX4_changedSet_64 : decode cX4_changedSet 64 = .ok (.ishl, 1) := by decide +kernel
theorem dX4_changedSet_65 : decode cX4_changedSet 65 = .ok (.ior, 1) := by decide +kernel
theorem dX4_changedSet_66 : decode cX4_changedSet 66 = .ok (.ireturn, 1) := by decide +kernel
theorem dX4_changedSet_67 : decode cX4_changedSet 67 = .ok (.iload_n 1, 1) := by decide +kernel
theorem dX4_changedSet_68 : decode cX4_changedSet 68 = .ok (.iconst 1, 1) := by decide +kernel
theorem dX4_changedSet_69 : decode cX4_changedSet 69 = .ok (.aload_n 0, 1) := by decide +kernel
theorem dX4_changedSet_70 : decode cX4_changedSet 70 = .ok (.getfield 13, 3) := by decide +kernel
theorem dX4_changedSet_73 : decode cX4_changedSet 73 = .ok (.ishl, 1) := by decide +kernel
theorem dX4_changedSet_74 : decode cX4_changedSet 74 = .ok (.iconst (-1), 1) := by decide +kernel
theorem dX4_changedSet_75 : decode cX4_changedSet 75 = .ok (.ixor, 1) := by decide +kernel
theorem dX4_changedSet_76 : decode cX4_changedSet 76 = .ok (.iand, 1) := by decide +kernel
theorem dX4_changedSet_77 : decode cX4_changedSet 77 = .ok (.ireturn, 1) := by decide +kernel
theorem dX4_changedSet_78 : decode cX4_changedSet 78 = .ok (.iload_n 1, 1) := by decide +kernel
theorem dX4_changedSet_79 : decode cX4_changedSet 79 = .ok (.ireturn, 1) := by decide +kernel
set_option maxRecDepth 20000 in
theorem ggX4_applyTo_X4_put : GoodIn wsX4_applyTo wsX4_put := goodIn_r _ [7, 8, 9, 10, 11, 12, 13, 14] (by decide +kernel) (by decide +kernel)
set_option maxRecDepth 20000 in
theorem gX4_applyTo_X4_put : GoodIn wsX4_applyTo (va_wsS RX4 19 yX4_put wsX4_put) := goodIn_app (goodIn_of _ (by decide +kernel)) ggX4_applyTo_X4_put
theorem dX4_applyTo_0 : decode cX4_applyTo 0 = .ok (.aload_n 0, 1) := by decide +kernel
theorem dX4_applyTo_1 : decode cX4_applyTo 1 = .ok (.getfield 7, 3) := by decide +kernel
theorem dX4_applyTo_4 : decode cX4_applyTo 4 = .ok (.tableswitch 112 0 4 #[36, 112, 50, 66, 88], 36) := by decide +kernel
theorem dX4_applyTo_40 : decode cX4_applyTo 40 = .ok (.aload_n 1, 1) := by decide +kernel
theorem dX4_applyTo_41 : decode cX4_applyTo 41 = .ok (.aload_n 0, 1) := by decide +kernel
theorem dX4_applyTo_42 : decode cX4_applyTo 42 = .ok (.getfield 13, 3) := by decide +kernel
theorem dX4_applyTo_45 : decode cX4_applyTo 45 = .ok (.aload_n 0, 1) := by decide +kernel
theorem dX4_applyTo_46 : decode cX4_applyTo 46 = .ok (.getfield 16, 3) := by decide +kernel
theorem dX4_applyTo_49 : decode cX4_applyTo 49 = .ok (.i2l, 1) := by decide +kernel
theorem dX4_applyTo_50 : decode cX4_applyTo 50 = .ok (.invokestatic 19, 3) := by decide +kernel
theorem dX4_applyTo_53 : decode cX4_applyTo 53 = .ok (.ireturn, 1) := by decide +kernel
theorem dX4_applyTo_54 : decode cX4_applyTo 54 = .ok (.aload_n 1, 1) := by decide +kernel
theorem dX4_applyTo_55 : decode cX4_applyTo 55 = .ok (.aload_n 0, 1) := by decide +kernel
theorem dX4_applyTo_56 : decode cX4_applyTo 56 = .ok (.getfield 16, 3) := by decide +kernel
theorem dX4_applyTo_59 : decode cX4_applyTo 59 = .ok (.aload_n 1, 1) := by decide +kernel
theorem dX4_applyTo_60 : decode cX4_applyTo 60 = .ok (.aload_n 0, 1) := by decide +kernel
theorem dX4_applyTo_61 : decode cX4_applyTo 61 = .ok (.getfield 13, 3) := by decide +kernel
theorem dX4_applyTo_64 : decode cX4_applyTo 64 = .ok (.iaload, 1) := by decide +kernel
theorem dX4_applyTo_65 : decode cX4_applyTo 65 = .ok (.i2l, 1) := by decide +kernel
theorem dX4_applyTo_66 : decode cX4_applyTo 66 = .ok (.invokestatic 19, 3) := by decide +kernel
theorem dX4_applyTo_69 : decode cX4_applyTo 69 = .ok (.ireturn, 1) := by decide +kernel
theorem dX4_applyTo_70 : decode cX4_applyTo 70 = .ok (.aload_n 1, 1) := by decide +kernel
theorem dX4_applyTo_71 : decode cX4_applyTo 71 = .ok (.aload_n 0, 1) := by decide +kernel
theorem dX4_applyTo_72 : decode cX4_applyTo 72 = .ok (.getfield 13, 3) := by decide +kernel
theorem dX4_applyTo_75 : decode cX4_applyTo 75 = .ok (.aload_n 1, 1) := by decide +kernel
theorem dX4_applyTo_76 : decode cX4_applyTo 76 = .ok (.aload_n 0, 1) := by decide +kernel
theorem dX4_applyTo_77 : decode cX4_applyTo 77 = .ok (.getfield 13, 3) := by decide +kernel
theorem dX4_applyTo_80 : decode cX4_applyTo 80 = .ok (.iaload, 1) := by decide +kernel
theorem dX4_applyTo_81 : decode cX4_applyTo 81 = .ok (.i2l, 1) := by decide +kernel
theorem dX4_applyTo_82 : decode cX4_applyTo 82 = .ok (.aload_n 0, 1) := by decide +kernel
theorem dX4_applyTo_83 : decode cX4_applyTo 83 = .ok (.getfield 16, 3) := by decide +kernel
theorem dX4_applyTo_86 : decode cX4_applyTo 86 = .ok (.i2l, 1) := by decide +kernel
theorem dX4_applyTo_87 : decode cX4_applyTo 87 = .ok (.lmul, 1) := by decide +kernel
theorem dX4_applyTo_88 : decode cX4_applyTo 88 = .ok (.invokestatic 19, 3) := by decide +kernel
theorem dX4_applyTo_91 : decode cX4_applyTo 91 = .ok (.ireturn, 1) := by decide +kernel
theorem dX4_applyTo_92 : decode cX4_applyTo 92 = .ok (.aload_n 1, 1) := by decide +kernel
theorem dX4_applyTo_93 : decode cX4_applyTo 93 = .ok (.aload_n 0, 1) := by decide +kernel
theorem dX4_applyTo_94 : decode cX4_applyTo 94 = .ok (.getfield 16, 3) := by decide +kernel
theorem dX4_applyTo_97 : decode cX4_applyTo 97 = .ok (.aload_n 1, 1) := by decide +kernel
theorem dX4_applyTo_98 : decode cX4_applyTo 98 = .ok (.aload_n 0, 1) := by decide +kernel
theorem dX4_applyTo_99 : decode cX4_applyTo 99 = .ok (.getfield 16, 3) := by decide +kernel
theorem dX4_applyTo_102 : decode cX4_applyTo 102 = .ok (.iaload, 1) := by decide +kernel
theorem dX4_applyTo_103 : decode cX4_applyTo 103 = .ok (.i2l, 1) := by decide +kernel
theorem dX4_applyTo_104 : decode cX4_applyTo 104 = .ok (.aload_n 1, 1) := by decide +kernel
theorem dX4_applyTo_105 : decode cX4_applyTo 105 = .ok (.aload_n 0, 1) := by decide +kernel
theorem dX4_applyTo_106 : decode cX4_applyTo 106 = .ok (.getfield 13, 3) := by decide +kernel
theorem dX4_applyTo_109 : decode cX4_applyTo 109 = .ok (.iaload, 1) := by decide +kernel
theorem dX4_applyTo_110 : decode cX4_applyTo 110 = .ok (.i2l, 1) := by decide +kernel
theorem dX4_applyTo_111 : decode cX4_applyTo 111 = .ok (.ladd, 1) := by decide +kernel
theorem dX4_applyTo_112 : decode cX4_applyTo 112 = .ok (.invokestatic 19, 3) := by decide +kernel
theorem dX4_applyTo_115 : decode cX4_applyTo 115 = .ok (.ireturn, 1) := by decide +kernel
theorem dX4_applyTo_116 : decode cX4_applyTo 116 = .ok (.iconst 1, 1) := by decide +kernel
theorem dX4_applyTo_117 : decode cX4_applyTo 117 = .ok (.ireturn, 1) := by decide +kernel
set_option maxRecDepth 20000 in
theorem ggX4_put_X6_isField : GoodIn wsX4_put wsX6_isField := goodIn_r _ [3] (by decide +kernel) (by decide +kernel)
set_option maxRecDepth 20000 in
theorem gX4_put_X6_isField_n23 : GoodIn wsX4_put (wsX6_isField) := ggX4_put_X6_isField
set_option maxRecDepth 20000 in
theorem ggX4_put_X6_isValue : GoodIn wsX4_put wsX6_isValue := goodIn_r _ [5, 6, 7] (by decide +kernel) (by decide +kernel)
set_option maxRecDepth 20000 in
theorem gX4_put_X6_isValue_n29 : GoodIn wsX4_put (wsX6_isValue) := ggX4_put_X6_isValue
theorem dX4_put_0 : decode cX4_put 0 = .ok (.iload_n 1, 1) := by decide +kernel
theorem dX4_put_1 : decode cX4_put 1 = .ok (.invokestatic 23, 3) := by decide +kernel
theorem dX4_put_4 : decode cX4_put 4 = .ok (.ifCond .eq 10, 3) := by decide +kernel
theorem dX4_put_7 : decode cX4_put 7 = .ok (.lload_n 2, 1) := by decide +kernel
theorem dX4_put_8 : decode cX4_put 8 = .ok (.invokestatic 29, 3) := by decide +kernel
theorem dX4_put_11 : decode cX4_put 11 = .ok (.ifCond .ne 5, 3) := by decide +kernel
theorem dX4_put_14 : decode cX4_put 14 = .ok (.iconst 0, 1) := by decide +kernel
theorem dX4_put_15 : decode cX4_put 15 = .ok (.ireturn, 1) := by decide +kernel
theorem dX4_put_16 : decode cX4_put 16 = .ok (.aload_n 0, 1) := by decide +kernel
theorem dX4_put_17 : decode cX4_put 17 = .ok (.iload_n 1, 1) := by decide +kernel
theorem dX4_put_18 : decode cX4_put 18 = .ok (.lload_n 2, 1) := by decide +kernel
theorem dX4_put_19 : decode cX4_put 19 = .ok (.l2i, 1) := by decide +kernel
theorem dX4_put_20 : decode cX4_put 20 = .ok (.iastore, 1) := by decide +kernel
theorem dX4_put_21 : decode cX4_put 21 = .ok (.iconst 1, 1) := by decide +kernel
theorem dX4_put_22 : decode cX4_put 22 = .ok (.ireturn, 1) := by decide +kernel
set_option maxRecDepth 20000 in
theorem ggX1_init_X2_init : GoodIn wsX1_init wsX2_init := goodIn_r _ [12, 13, 2, 3, 14, 15, 21, 22] (by decide +kernel) (by decide +kernel)
set_option maxRecDepth 20000 in
theorem gX1_init_X2_init_n25 : GoodIn wsX1_init (wsX2_init) := ggX1_init_X2_init
theorem dX1_init_0 : decode cX1_init 0 = .ok (.aload_n 0, 1) := by decide +kernel
theorem dX1_init_1 : decode cX1_init 1 = .ok (.invokespecial 3, 3) := by decide +kernel
theorem dX1_init_4 : decode cX1_init 4 = .ok (.aload_n 0, 1) := by decide +kernel
theorem dX1_init_5 : decode cX1_init 5 = .ok (.bipush 8, 2) := by decide +kernel
theorem dX1_init_7 : decode cX1_init 7 = .ok (.newarray .int, 2) := by decide +kernel
theorem dX1_init_9 : decode cX1_init 9 = .ok (.putfield 9, 3) := by decide +kernel
theorem dX1_init_12 : decode cX1_init 12 = .ok (.aload_n 0, 1) := by decide +kernel
theorem dX1_init_13 : decode cX1_init 13 = .ok (.bipush 8, 2) := by decide +kernel
theorem dX1_init_15 : decode cX1_init 15 = .ok (.anewarray 15, 3) := by decide +kernel
theorem dX1_init_18 : decode cX1_init 18 = .ok (.putfield 17, 3) := by decide +kernel
theorem dX1_init_21 : decode cX1_init 21 = .ok (.aload_n 0, 1) := by decide +kernel
theorem dX1_init_22 : decode cX1_init 22 = .ok (.iload_n 1, 1) := by decide +kernel
theorem dX1_init_23 : decode cX1_init 23 = .ok (.putfield 21, 3) := by decide +kernel
theorem dX1_init_26 : decode cX1_init 26 = .ok (.aload_n 0, 1) := by decide +kernel
theorem dX1_init_27 : decode cX1_init 27 = .ok (.getfield 9, 3) := by decide +kernel
theorem dX1_init_30 : decode cX1_init 30 = .ok (.iconst 0, 1) := by decide +kernel
theorem dX1_init_31 : decode cX1_init 31 = .ok (.iload_n 2, 1) := by decide +kernel
theorem dX1_init_32 : decode cX1_init 32 = .ok (.iastore, 1) := by decide +kernel
theorem dX1_init_33 : decode cX1_init 33 = .ok (.iconst 0, 1) := by decide +kernel
theorem dX1_init_34 : decode cX1_init 34 = .ok (.istore_n 3, 1) := by decide +kernel
theorem dX1_init_35 : decode cX1_init 35 = .ok (.iload_n 3, 1) := by decide +kernel
theorem dX1_init_36 : decode cX1_init 36 = .ok (.bipush 8, 2) := by decide +kernel
theorem dX1_init_38 : decode cX1_init 38 = .ok (.if_icmp .ge 22, 3) := by decide +kernel
theorem dX1_init_41 : decode cX1_init 41 = .ok (.aload_n 0, 1) := by decide +kernel
theorem dX1_init_42 : decode cX1_init 42 = .ok (.getfield 17, 3) := by decide +kernel
theorem dX1_init_45 : decode cX1_init 45 = .ok (.iload_n 3, 1) := by decide +kernel
theorem dX1_init_46 : decode cX1_init 46 = .ok (.new 15, 3) := by decide +kernel
theorem dX1_init_49 : decode cX1_init 49 = .ok (.dup, 1) := by decide +kernel
theorem dX1_init_50 : decode cX1_init 50 = .ok (.invokespecial 25, 3) := by decide +kernel
theorem dX1_init_53 : decode cX1_init 53 = .ok (.aastore, 1) := by decide +kernel
theorem dX1_init_54 : decode cX1_init 54 = .ok (.iinc 3 1, 3) := by decide +kernel
theorem dX1_init_57 : decode cX1_init 57 = .ok (.goto (-22), 3) := by decide +kernel
theorem dX1_init_60 : decode cX1_init 60 = .ok (.return_, 1) := by decide +kernel
theorem dX1_fieldSet_0 : decode cX1_fieldSet 0 = .ok (.iload_n 1, 1) := by decide +kernel
theorem dX1_fieldSet_1 : decode cX1_fieldSet 1 = .ok (.ifCond .lt 9, 3) := by decide +kernel
theorem dX1_fieldSet_4 : decode cX1_fieldSet 4 = .ok (.iload_n 1, 1) := by decide +kernel
theorem dX1_fieldSet_5 : decode cX1_fieldSet 5 = .ok (.bipush 8, 2) := by decide +kernel
theorem dX1_fieldSet_7 : decode cX1_fieldSet 7 = .ok (.if_icmp .lt 5, 3) := by decide +kernel
theorem dX1_fieldSet_10 : decode cX1_fieldSet 10 = .ok (.iconst 0, 1) := by decide +kernel
theorem dX1_fieldSet_11 : decode cX1_fieldSet 11 = .ok (.ireturn, 1) := by decide +kernel
theorem dX1_fieldSet_12 : decode cX1_fieldSet 12 = .ok (.aload_n 0, 1) := by decide +kernel
theorem dX1_fieldSet_13 : decode cX1_fieldSet 13 = .ok (.getfield 9, 3) := by decide +kernel
theorem dX1_fieldSet_16 : decode cX1_fieldSet 16 = .ok (.iload_n 1, 1) := by decide +kernel
theorem dX1_fieldSet_17 : decode cX1_fieldSet 17 = .ok (.iaload, 1) := by decide +kernel
theorem dX1_fieldSet_18 : decode cX1_fieldSet 18 = .ok (.ireturn, 1) := by decide +kernel
set_option maxRecDepth 20000 in
theorem ggX1_stagedSet_X1_fieldSet : GoodIn wsX1_stagedSet wsX1_fieldSet := goodIn_r _ [6, 7, 8, 9, 10, 11, 12] (by decide +kernel) (by decide +kernel)
set_option maxRecDepth 20000 in
theorem gX1_stagedSet_X1_fieldSet : GoodIn wsX1_stagedSet (wsV RX1 29 RX1 yX1_fieldSet wsX1_fieldSet) := goodIn_app (goodIn_of _ (by decide +kernel)) ggX1_stagedSet_X1_fieldSet
theorem dX1_stagedSet_0 : decode cX1_stagedSet 0 = .ok (.aload_n 0, 1) := by decide +kernel
theorem dX1_stagedSet_1 : decode cX1_stagedSet 1 = .ok (.aload_n 0, 1) := by decide +kernel
theorem dX1_stagedSet_2 : decode cX1_stagedSet 2 = .ok (.getfield 26, 3) := by decide +kernel
theorem dX1_stagedSet_5 : decode cX1_stagedSet 5 = .ok (.iconst 1, 1) := by decide +kernel
theorem dX1_stagedSet_6 : decode cX1_stagedSet 6 = .ok (.iadd, 1) := by decide +kernel
theorem dX1_stagedSet_7 : decode cX1_stagedSet 7 = .ok (.invokevirtual 29, 3) := by decide +kernel
theorem dX1_stagedSet_10 : decode cX1_stagedSet 10 = .ok (.ireturn, 1) := by decide +kernel
theorem dX1_isFull_0 : decode cX1_isFull 0 = .ok (.aload_n 0, 1) := by decide +kernel
theorem dX1_isFull_1 : decode cX1_isFull 1 = .ok (.getfield 26, 3) := by decide +kernel
theorem dX1_isFull_4 : decode cX1_isFull 4 = .ok (.bipush 7, 2) := by decide +kernel
theorem dX1_isFull_6 : decode cX1_isFull 6 = .ok (.if_icmp .lt 7, 3) := by decide +kernel
theorem dX1_isFull_9 : decode cX1_isFull 9 = .ok (.iconst 1, 1) := by decide +kernel
theorem dX1_isFull_10 : decode cX1_isFull 10 = .ok (.goto 4, 3) := by decide +kernel
theorem dX1_isFull_13 : decode cX1_isFull 13 = .ok (.iconst 0, 1) := by decide +kernel
theorem dX1_isFull_14 : decode cX1_isFull 14 = .ok (.ireturn, 1) := by decide +kernel
set_option maxRecDepth 20000 in
theorem ggX1_beginStaged_X1_isFull : GoodIn wsX1_beginStaged wsX1_isFull := goodIn_r _ [10, 3, 17, 18, 19, 20, 21] (by decide +kernel) (by decide +kernel)
set_option maxRecDepth 20000 in
theorem gX1_beginStaged_X1_isFull : GoodIn wsX1_beginStaged (wsV RX1 33 RX1 yX1_isFull wsX1_isFull) := goodIn_app (goodIn_of _ (by decide +kernel)) ggX1_beginStaged_X1_isFull
set_option maxRecDepth 20000 in
theorem ggX1_beginStaged_X2_clear : GoodIn wsX1_beginStaged wsX2_clear := goodIn_r _ [15, 16, 22, 23] (by decide +kernel) (by decide +kernel)
set_option maxRecDepth 20000 in
theorem gX1_beginStaged_X2_clear : GoodIn wsX1_beginStaged (wsV RX1 38 RX2 yX2_clear wsX2_clear) := goodIn_app (goodIn_of _ (by decide +kernel)) ggX1_beginStaged_X2_clear
theorem dX1_beginStaged_0 : decode cX1_beginStaged 0 = .ok (.aload_n 0, 1) := by decide +kernel
theorem dX1_beginStaged_1 : decode cX1_beginStaged 1 = .ok (.invokevirtual 33, 3) := by decide +kernel
theorem dX1_beginStaged_4 : decode cX1_beginStaged 4 = .ok (.ifCond .eq 6, 3) := by decide +kernel
theorem dX1_beginStaged_7 : decode cX1_beginStaged 7 = .ok (.ldc 37, 2) := by decide +kernel
theorem dX1_beginStaged_9 : decode cX1_beginStaged 9 = .ok (.ireturn, 1) := by decide +kernel
theorem dX1_beginStaged_10 : decode cX1_beginStaged 10 = .ok (.aload_n 0, 1) := by decide +kernel
theorem dX1_beginStaged_11 : decode cX1_beginStaged 11 = .ok (.getfield 9, 3) := by decide +kernel
theorem dX1_beginStaged_14 : decode cX1_beginStaged 14 = .ok (.aload_n 0, 1) := by decide +kernel
theorem dX1_beginStaged_15 : decode cX1_beginStaged 15 = .ok (.getfield 26, 3) := by decide +kernel
theorem dX1_beginStaged_18 : decode cX1_beginStaged 18 = .ok (.iconst 1, 1) := by decide +kernel
theorem dX1_beginStaged_19 : decode cX1_beginStaged 19 = .ok (.iadd, 1) := by decide +kernel
theorem dX1_beginStaged_20 : decode cX1_beginStaged 20 = .ok (.aload_n 0, 1) := by decide +kernel
theorem dX1_beginStaged_21 : decode cX1_beginStaged 21 = .ok (.getfield 9, 3) := by decide +kernel
theorem dX1_beginStaged_24 : decode cX1_beginStaged 24 = .ok (.aload_n 0, 1) := by decide +kernel
theorem dX1_beginStaged_25 : decode cX1_beginStaged 25 = .ok (.getfield 26, 3) := by decide +kernel
theorem dX1_beginStaged_28 : decode cX1_beginStaged 28 = .ok (.iaload, 1) := by decide +kernel
theorem dX1_beginStaged_29 : decode cX1_beginStaged 29 = .ok (.iastore, 1) := by decide +kernel
theorem dX1_beginStaged_30 : decode cX1_beginStaged 30 = .ok (.aload_n 0, 1) := by decide +kernel
theorem dX1_beginStaged_31 : decode cX1_beginStaged 31 = .ok (.getfield 17, 3) := by decide +kernel
theorem dX1_beginStaged_34 : decode cX1_beginStaged 34 = .ok (.aload_n 0, 1) := by decide +kernel
theorem dX1_beginStaged_35 : decode cX1_beginStaged 35 = .ok (.getfield 26, 3) := by decide +kernel
theorem dX1_beginStaged_38 : decode cX1_beginStaged 38 = .ok (.iconst 1, 1) := by decide +kernel
theorem dX1_beginStaged_39 : decode cX1_beginStaged 39 = .ok (.iadd, 1) := by decide +kernel
theorem dX1_beginStaged_40 : decode cX1_beginStaged 40 = .ok (.aaload, 1) := by decide +kernel
theorem dX1_beginStaged_41 : decode cX1_beginStaged 41 = .ok (.invokevirtual 38, 3) := by decide +kernel
theorem dX1_beginStaged_44 : decode cX1_beginStaged 44 = .ok (.aload_n 0, 1) := by decide +kernel
theorem dX1_beginStaged_45 : decode cX1_beginStaged 45 = .ok (.iconst 1, 1) := by decide +kernel
theorem dX1_beginStaged_46 : decode cX1_beginStaged 46 = .ok (.putfield 41, 3) := by decide +kernel
theorem dX1_beginStaged_49 : decode cX1_beginStaged 49 = .ok (.aload_n 0, 1) := by decide +kernel
theorem dX1_beginStaged_50 : decode cX1_beginStaged 50 = .ok (.getfield 26, 3) := by decide +kernel
theorem dX1_beginStaged_53 : decode cX1_beginStaged 53 = .ok (.iconst 1, 1) := by decide +kernel
theorem dX1_beginStaged_54 : decode cX1_beginStaged 54 = .ok (.iadd, 1) := by decide +kernel
theorem dX1_beginStaged_55 : decode cX1_beginStaged 55 = .ok (.ireturn, 1) := by decide +kernel
set_option maxRecDepth 20000 in
theorem ggX1_append_X1_isFull : GoodIn wsX1_append wsX1_isFull := goodIn_r _ [12, 2, 39, 40, 41, 42, 43] (by decide +kernel) (by decide +kernel)
set_option maxRecDepth 20000 in
theorem gX1_append_X1_isFull : GoodIn wsX1_append (wsV RX1 33 RX1 yX1_isFull wsX1_isFull) := goodIn_app (goodIn_of _ (by decide +kernel)) ggX1_append_X1_isFull
set_option maxRecDepth 20000 in
theorem ggX1_append_X2_isFull : GoodIn wsX1_append wsX2_isFull := goodIn_r _ [17, 18, 47, 48] (by decide +kernel) (by decide +kernel)
set_option maxRecDepth 20000 in
theorem gX1_append_X2_isFull : GoodIn wsX1_append (wsV RX1 45 RX2 yX2_isFull wsX2_isFull) := goodIn_app (goodIn_of _ (by decide +kernel)) ggX1_append_X2_isFull
set_option maxRecDepth 20000 in
theorem ggX1_append_X4_init : GoodIn wsX1_append wsX4_init := goodIn_r _ [21, 22, 23, 24, 25, 26, 27, 44, 45, 46] (by decide +kernel) (by decide +kernel)
set_option maxRecDepth 20000 in
theorem gX1_append_X4_init : GoodIn wsX1_append (wsX4_init) := ggX1_append_X4_init
set_option maxRecDepth 20000 in
theorem ggX1_append_X4_changedSet : GoodIn wsX1_append wsX4_changedSet := goodIn_r _ [31, 25, 26, 27, 44, 45, 46] (by decide +kernel) (by decide +kernel)
set_option maxRecDepth 20000 in
theorem gX1_append_X4_changedSet : GoodIn wsX1_append (wsV RX1 51 RX4 yX4_changedSet wsX4_changedSet) := goodIn_app (goodIn_of _ (by decide +kernel)) ggX1_append_X4_changedSet
set_option maxRecDepth 20000 in
theorem ggX1_append_X2_append : GoodIn wsX1_append wsX2_append := goodIn_r _ [35, 36, 37, 18, 38, 14, 15, 16, 17, 47, 48] (by decide +kernel) (by decide +kernel)
set_option maxRecDepth 20000 in
theorem gX1_append_X2_append : GoodIn wsX1_append (wsV RX1 54 RX2 yX2_append wsX2_append) := goodIn_app (goodIn_of _ (by decide +kernel)) ggX1_append_X2_append
theorem dX1_append_0 : decode cX1_append 0 = .ok (.aload_n 0, 1) := by decide +kernel
theorem dX1_append_1 : decode cX1_append 1 = .ok (.invokevirtual 33, 3) := by decide +kernel
theorem dX1_append_4 : decode cX1_append 4 = .ok (.ifCond .ne 20, 3) := by decide +kernel
theorem dX1_append_7 : decode cX1_append 7 = .ok (.aload_n 0, 1) := by decide +kernel
theorem dX1_append_8 : decode cX1_append 8 = .ok (.getfield 17, 3) := by decide +kernel
theorem dX1_append_11 : decode cX1_append 11 = .ok (.aload_n 0, 1) := by decide +kernel
theorem dX1_append_12 : decode cX1_append 12 = .ok (.getfield 26, 3) := by decide +kernel
theorem dX1_append_15 : decode cX1_append 15 = .ok (.iconst 1, 1) := by decide +kernel
theorem dX1_append_16 : decode cX1_append 16 = .ok (.iadd, 1) := by decide +kernel
theorem dX1_append_17 : decode cX1_append 17 = .ok (.aaload, 1) := by decide +kernel
theorem dX1_append_18 : decode cX1_append 18 = .ok (.invokevirtual 45, 3) := by decide +kernel
theorem dX1_append_21 : decode cX1_append 21 = .ok (.ifCond .eq 6, 3) := by decide +kernel
theorem dX1_append_24 : decode cX1_append 24 = .ok (.ldc 37, 2) := by decide +kernel
theorem dX1_append_26 : decode cX1_append 26 = .ok (.ireturn, 1) := by decide +kernel
theorem dX1_append_27 : decode cX1_append 27 = .ok (.new 46, 3) := by decide +kernel
theorem dX1_append_30 : decode cX1_append 30 = .ok (.dup, 1) := by decide +kernel
theorem dX1_append_31 : decode cX1_append 31 = .ok (.iload_n 1, 1) := by decide +kernel
theorem dX1_append_32 : decode cX1_append 32 = .ok (.iload_n 2, 1) := by decide +kernel
theorem dX1_append_33 : decode cX1_append 33 = .ok (.iload_n 3, 1) := by decide +kernel
theorem dX1_append_34 : decode cX1_append 34 = .ok (.invokespecial 48, 3) := by decide +kernel
theorem dX1_append_37 : decode cX1_append 37 = .ok (.astore 4, 2) := by decide +kernel
theorem dX1_append_39 : decode cX1_append 39 = .ok (.aload_n 0, 1) := by decide +kernel
theorem dX1_append_40 : decode cX1_append 40 = .ok (.getfield 9, 3) := by decide +kernel
theorem dX1_append_43 : decode cX1_append 43 = .ok (.aload_n 0, 1) := by decide +kernel
theorem dX1_append_44 : decode cX1_append 44 = .ok (.getfield 26, 3) := by decide +kernel
theorem dX1_append_47 : decode cX1_append 47 = .ok (.iconst 1, 1) := by decide +kernel
theorem dX1_append_48 : decode cX1_append 48 = .ok (.iadd, 1) := by decide +kernel
theorem dX1_append_49 : decode cX1_append 49 = .ok (.aload 4, 2) := by decide +kernel
theorem dX1_append_51 : decode cX1_append 51 = .ok (.aload_n 0, 1) := by decide +kernel
theorem dX1_append_52 : decode cX1_append 52 = .ok (.getfield 9, 3) := by decide +kernel
theorem dX1_append_55 : decode cX1_append 55 = .ok (.aload_n 0, 1) := by decide +kernel
theorem dX1_append_56 : decode cX1_append 56 = .ok (.getfield 26, 3) := by decide +kernel
theorem dX1_append_59 : decode cX1_append 59 = .ok (.iconst 1, 1) := by decide +kernel
theorem dX1_append_60 : decode cX1_append 60 = .ok (.iadd, 1) := by decide +kernel
theorem dX1_append_61 : decode cX1_append 61 = .ok (.iaload, 1) := by decide +kernel
theorem dX1_append_62 : decode cX1_append 62 = .ok (.invokevirtual 51, 3) := by decide +kernel
theorem dX1_append_65 : decode cX1_append 65 = .ok (.iastore, 1) := by decide +kernel
theorem dX1_append_66 : decode cX1_append 66 = .ok (.aload_n 0, 1) := by decide +kernel
theorem dX1_append_67 : decode cX1_append 67 = .ok (.getfield 17, 3) := by decide +kernel
theorem dX1_append_70 : decode cX1_append 70 = .ok (.aload_n 0, 1) := by decide +kernel
theorem dX1_append_71 : decode cX1_append 71 = .ok (.getfield 26, 3) := by decide +kernel
theorem dX1_append_74 : decode cX1_append 74 = .ok (.iconst 1, 1) := by decide +kernel
theorem dX1_append_75 : decode cX1_append 75 = .ok (.iadd, 1) := by decide +kernel
theorem dX1_append_76 : decode cX1_append 76 = .ok (.aaload, 1) := by decide +kernel
theorem dX1_append_77 : decode cX1_append 77 = .ok (.aload 4, 2) := by decide +kernel
theorem dX1_append_79 : decode cX1_append 79 = .ok (.invokevirtual 54, 3) := by decide +kernel
theorem dX1_append_82 : decode cX1_append 82 = .ok (.ireturn, 1) := by decide +kernel
set_option maxRecDepth 20000 in
theorem ggX1_activateStaged_X1_isFull : GoodIn wsX1_activateStaged wsX1_isFull := goodIn_r _ [7, 1, 8, 9, 10, 11, 12] (by decide +kernel) (by decide +kernel)
set_option maxRecDepth 20000 in
theorem gX1_activateStaged_X1_isFull : GoodIn wsX1_activateStaged (wsV RX1 33 RX1 yX1_isFull wsX1_isFull) := goodIn_app (goodIn_of _ (by decide +kernel)) ggX1_activateStaged_X1_isFull
theorem dX1_activateStaged_0 : decode cX1_activateStaged 0 = .ok (.aload_n 0, 1) := by decide +kernel
theorem dX1_activateStaged_1 : decode cX1_activateStaged 1 = .ok (.invokevirtual 33, 3) := by decide +kernel
theorem dX1_activateStaged_4 : decode cX1_activateStaged 4 = .ok (.ifCond .ne 13, 3) := by decide +kernel
theorem dX1_activateStaged_7 : decode cX1_activateStaged 7 = .ok (.aload_n 0, 1) := by decide +kernel
theorem dX1_activateStaged_8 : decode cX1_activateStaged 8 = .ok (.dup, 1) := by decide +kernel
theorem dX1_activateStaged_9 : decode cX1_activateStaged 9 = .ok (.getfield 26, 3) := by decide +kernel
theorem dX1_activateStaged_12 : decode cX1_activateStaged 12 = .ok (.iconst 1, 1) := by decide +kernel
theorem dX1_activateStaged_13 : decode cX1_activateStaged 13 = .ok (.iadd, 1) := by decide +kernel
theorem dX1_activateStaged_14 : decode cX1_activateStaged 14 = .ok (.putfield 26, 3) := by decide +kernel
theorem dX1_activateStaged_17 : decode cX1_activateStaged 17 = .ok (.aload_n 0, 1) := by decide +kernel
theorem dX1_activateStaged_18 : decode cX1_activateStaged 18 = .ok (.iconst 0, 1) := by decide +kernel
theorem dX1_activateStaged_19 : decode cX1_activateStaged 19 = .ok (.putfield 41, 3) := by decide +kernel
theorem dX1_activateStaged_22 : decode cX1_activateStaged 22 = .ok (.aload_n 0, 1) := by decide +kernel
theorem dX1_activateStaged_23 : decode cX1_activateStaged 23 = .ok (.getfield 26, 3) := by decide +kernel
theorem dX1_activateStaged_26 : decode cX1_activateStaged 26 = .ok (.ireturn, 1) := by decide +kernel
set_option maxRecDepth 20000 in
theorem ggX1_discardStaged_X1_isFull : GoodIn wsX1_discardStaged wsX1_isFull := goodIn_r _ [8, 3, 9, 10, 11, 12, 13] (by decide +kernel) (by decide +kernel)
set_option maxRecDepth 20000 in
theorem gX1_discardStaged_X1_isFull : GoodIn wsX1_discardStaged (wsV RX1 33 RX1 yX1_isFull wsX1_isFull) := goodIn_app (goodIn_of _ (by decide +kernel)) ggX1_discardStaged_X1_isFull
theorem dX1_discardStaged_0 : decode cX1_discardStaged 0 = .ok (.aload_n 0, 1) := by decide +kernel
theorem dX1_discardStaged_1 : decode cX1_discardStaged 1 = .ok (.iconst 0, 1) := by decide +kernel
theorem dX1_discardStaged_2 : decode cX1_discardStaged 2 = .ok (.putfield 41, 3) := by decide +kernel
theorem dX1_discardStaged_5 : decode cX1_discardStaged 5 = .ok (.aload_n 0, 1) := by decide +kernel
theorem dX1_discardStaged_6 : decode cX1_discardStaged 6 = .ok (.invokevirtual 33, 3) := by decide +kernel
theorem dX1_discardStaged_9 : decode cX1_discardStaged 9 = .ok (.ifCond .eq 5, 3) := by decide +kernel
theorem dX1_discardStaged_12 : decode cX1_discardStaged 12 = .ok (.iconst 0, 1) := by decide +kernel
theorem dX1_discardStaged_13 : decode cX1_discardStaged 13 = .ok (.ireturn, 1) := by decide +kernel
theorem dX1_discardStaged_14 : decode cX1_discardStaged 14 = .ok (.aload_n 0, 1) := by decide +kernel
theorem dX1_discardStaged_15 : decode cX1_discardStaged 15 = .ok (.getfield 17, 3) := by decide +kernel
theorem dX1_discardStaged_18 : decode cX1_discardStaged 18 = .ok (.aload_n 0, 1) := by decide +kernel
theorem dX1_discardStaged_19 : decode cX1_discardStaged 19 = .ok (.getfield 26, 3) := by decide +kernel
theorem dX1_discardStaged_22 : decode cX1_discardStaged 22 = .ok (.iconst 1, 1) := by decide +kernel
theorem dX1_discardStaged_23 : decode cX1_discardStaged 23 = .ok (.iadd, 1) := by decide +kernel
theorem dX1_discardStaged_24 : decode cX1_discardStaged 24 = .ok (.aaload, 1) := by decide +kernel
theorem dX1_discardStaged_25 : decode cX1_discardStaged 25 = .ok (.getfield 58, 3) := by decide +kernel
theorem dX1_discardStaged_28 : decode cX1_discardStaged 28 = .ok (.ireturn, 1) := by decide +kernel
theorem dX1_removeCurrent_0 : decode cX1_removeCurrent 0 = .ok (.aload_n 0, 1) := by decide +kernel
theorem dX1_removeCurrent_1 : decode cX1_removeCurrent 1 = .ok (.getfield 26, 3) := by decide +kernel
theorem dX1_removeCurrent_4 : decode cX1_removeCurrent 4 = .ok (.ifCond .le 13, 3) := by decide +kernel
theorem dX1_removeCurrent_7 : decode cX1_removeCurrent 7 = .ok (.aload_n 0, 1) := by decide +kernel
theorem dX1_removeCurrent_8 : decode cX1_removeCurrent 8 = .ok (.dup, 1) := by decide +kernel
theorem dX1_removeCurrent_9 : decode cX1_removeCurrent 9 = .ok (.getfield 26, 3) := by decide +kernel
theorem dX1_removeCurrent_12 : decode cX1_removeCurrent 12 = .ok (.iconst 1, 1) := by decide +kernel
theorem dX1_removeCurrent_13 : decode cX1_removeCurrent 13 = .ok (.isub, 1) := by decide +kernel
theorem dX1_removeCurrent_14 : decode cX1_removeCurrent 14 = .ok (.putfield 26, 3) := by decide +kernel
theorem dX1_removeCurrent_17 : decode cX1_removeCurrent 17 = .ok (.aload_n 0, 1) := by decide +kernel
theorem dX1_removeCurrent_18 : decode cX1_removeCurrent 18 = .ok (.iconst 0, 1) := by decide +kernel
theorem dX1_removeCurrent_19 : decode cX1_removeCurrent 19 = .ok (.putfield 41, 3) := by decide +kernel
theorem dX1_removeCurrent_22 : decode cX1_removeCurrent 22 = .ok (.aload_n 0, 1) := by decide +kernel
theorem dX1_removeCurrent_23 : decode cX1_removeCurrent 23 = .ok (.getfield 26, 3) := by decide +kernel
theorem dX1_removeCurrent_26 : decode cX1_removeCurrent 26 = .ok (.ireturn, 1) := by decide +kernel
theorem dX5_init_0 : decode cX5_init 0 = .ok (.aload_n 0, 1) := by decide +kernel
theorem dX5_init_1 : decode cX5_init 1 = .ok (.invokespecial 3, 3) := by decide +kernel
theorem dX5_init_4 : decode cX5_init 4 = .ok (.aload_n 0, 1) := by decide +kernel
theorem dX5_init_5 : decode cX5_init 5 = .ok (.bipush 8, 2) := by decide +kernel
theorem dX5_init_7 : decode cX5_init 7 = .ok (.bipush 8, 2) := by decide +kernel
theorem dX5_init_9 : decode cX5_init 9 = .ok (.multianewarray 9 2, 4) := by decide +kernel
theorem dX5_init_13 : decode cX5_init 13 = .ok (.putfield 11, 3) := by decide +kernel
theorem dX5_init_16 : decode cX5_init 16 = .ok (.aload_n 0, 1) := by decide +kernel
theorem dX5_init_17 : decode cX5_init 17 = .ok (.aload_n 1, 1) := by decide +kernel
theorem dX5_init_18 : decode cX5_init 18 = .ok (.putfield 16, 3) := by decide +kernel
theorem dX5_init_21 : decode cX5_init 21 = .ok (.aload_n 0, 1) := by decide +kernel
theorem dX5_init_22 : decode cX5_init 22 = .ok (.iload_n 2, 1) := by decide +kernel
theorem dX5_init_23 : decode cX5_init 23 = .ok (.putfield 20, 3) := by decide +kernel
theorem dX5_init_26 : decode cX5_init 26 = .ok (.aload_n 0, 1) := by decide +kernel
theorem dX5_init_27 : decode cX5_init 27 = .ok (.iload_n 2, 1) := by decide +kernel
theorem dX5_init_28 : decode cX5_init 28 = .ok (.putfield 24, 3) := by decide +kernel
theorem dX5_init_31 : decode cX5_init 31 = .ok (.return_, 1) := by decide +kernel
theorem dX5_valueOf_0 : decode cX5_valueOf 0 = .ok (.aload_n 0, 1) := by decide +kernel
theorem dX5_valueOf_1 : decode cX5_valueOf 1 = .ok (.getfield 11, 3) := by decide +kernel
theorem dX5_valueOf_4 : decode cX5_valueOf 4 = .ok (.aload_n 0, 1) := by decide +kernel
theorem dX5_valueOf_5 : decode cX5_valueOf 5 = .ok (.getfield 24, 3) := by decide +kernel
theorem dX5_valueOf_8 : decode cX5_valueOf 8 = .ok (.aaload, 1) := by decide +kernel
theorem dX5_valueOf_9 : decode cX5_valueOf 9 = .ok (.iload_n 1, 1) := by decide +kernel
theorem dX5_valueOf_10 : decode cX5_valueOf 10 = .ok (.iaload, 1) := by decide +kernel
theorem dX5_valueOf_11 : decode cX5_valueOf 11 = .ok (.ireturn, 1) := by decide +kernel
theorem dX5_putValue_0 : decode cX5_putValue 0 = .ok (.aload_n 0, 1) := by decide +kernel
theorem dX5_putValue_1 : decode cX5_putValue 1 = .ok (.getfield 11, 3) := by decide +kernel
theorem dX5_putValue_4 : decode cX5_putValue 4 = .ok (.aload_n 0, 1) := by decide +kernel
theorem dX5_putValue_5 : decode cX5_putValue 5 = .ok (.getfield 24, 3) := by decide +kernel
theorem dX5_putValue_8 : decode cX5_putValue 8 = .ok (.aaload, 1) := by decide +kernel
theorem dX5_putValue_9 : decode cX5_putValue 9 = .ok (.iload_n 1, 1) := by decide +kernel
theorem dX5_putValue_10 : decode cX5_putValue 10 = .ok (.iload_n 2, 1) := by decide +kernel
theorem dX5_putValue_11 : decode cX5_putValue 11 = .ok (.iastore, 1) := by decide +kernel
theorem dX5_putValue_12 : decode cX5_putValue 12 = .ok (.return_, 1) := by decide +kernel
set_option maxRecDepth 20000 in
theorem ggX5_convertTo_X2_applyTo : GoodIn wsX5_convertTo wsX2_applyTo := goodIn_r _ [12, 13, 14, 15, 16, 17, 18, 19, 20, 21, 22, 23, 24, 25, 26, 27, 28, 29, 30, 31, 32, 42, 43, 44, 45, 46] (by decide +kernel) (by decide +kernel)
set_option maxRecDepth 20000 in
theorem gX5_convertTo_X2_applyTo : GoodIn wsX5_convertTo (wsV RX5 39 RX2 yX2_applyTo wsX2_applyTo) := goodIn_app (goodIn_of _ (by decide +kernel)) ggX5_convertTo_X2_applyTo
theorem dX5_convertTo_0 : decode cX5_convertTo 0 = .ok (.iload_n 1, 1) := by decide +kernel
theorem dX5_convertTo_1 : decode cX5_convertTo 1 = .ok (.aload_n 0, 1) := by decide +kernel
theorem dX5_convertTo_2 : decode cX5_convertTo 2 = .ok (.getfield 24, 3) := by decide +kernel
theorem dX5_convertTo_5 : decode cX5_convertTo 5 = .ok (.if_icmp .lt 9, 3) := by decide +kernel
theorem dX5_convertTo_8 : decode cX5_convertTo 8 = .ok (.iload_n 1, 1) := by decide +kernel
theorem dX5_convertTo_9 : decode cX5_convertTo 9 = .ok (.bipush 8, 2) := by decide +kernel
theorem dX5_convertTo_11 : decode cX5_convertTo 11 = .ok (.if_icmp .lt 5, 3) := by decide +kernel
theorem dX5_convertTo_14 : decode cX5_convertTo 14 = .ok (.iconst 0, 1) := by decide +kernel
theorem dX5_convertTo_15 : decode cX5_convertTo 15 = .ok (.ireturn, 1) := by decide +kernel
theorem dX5_convertTo_16 : decode cX5_convertTo 16 = .ok (.aload_n 0, 1) := by decide +kernel
theorem dX5_convertTo_17 : decode cX5_convertTo 17 = .ok (.getfield 24, 3) := by decide +kernel
theorem dX5_convertTo_20 : decode cX5_convertTo 20 = .ok (.iconst 1, 1) := by decide +kernel
theorem dX5_convertTo_21 : decode cX5_convertTo 21 = .ok (.iadd, 1) := by decide +kernel
theorem dX5_convertTo_22 : decode cX5_convertTo 22 = .ok (.istore_n 2, 1) := by decide +kernel
theorem dX5_convertTo_23 : decode cX5_convertTo 23 = .ok (.iload_n 2, 1) := by decide +kernel
theorem dX5_convertTo_24 : decode cX5_convertTo 24 = .ok (.iload_n 1, 1) := by decide +kernel
theorem dX5_convertTo_25 : decode cX5_convertTo 25 = .ok (.if_icmp .gt 53, 3) := by decide +kernel
theorem dX5_convertTo_28 : decode cX5_convertTo 28 = .ok (.aload_n 0, 1) := by decide +kernel
theorem dX5_convertTo_29 : decode cX5_convertTo 29 = .ok (.getfield 11, 3) := by decide +kernel
theorem dX5_convertTo_32 : decode cX5_convertTo 32 = .ok (.iload_n 2, 1) := by decide +kernel
theorem dX5_convertTo_33 : decode cX5_convertTo 33 = .ok (.iconst 1, 1) := by decide +kernel
theorem dX5_convertTo_34 : decode cX5_convertTo 34 = .ok (.isub, 1) := by decide +kernel
theorem dX5_convertTo_35 : decode cX5_convertTo 35 = .ok (.aaload, 1) := by decide +kernel
theorem dX5_convertTo_36 : decode cX5_convertTo 36 = .ok (.iconst 0, 1) := by decide +kernel
theorem dX5_convertTo_37 : decode cX5_convertTo 37 = .ok (.aload_n 0, 1) := by decide +kernel
theorem dX5_convertTo_38 : decode cX5_convertTo 38 = .ok (.getfield 11, 3) := by decide +kernel
theorem dX5_convertTo_41 : decode cX5_convertTo 41 = .ok (.iload_n 2, 1) := by decide +kernel
theorem dX5_convertTo_42 : decode cX5_convertTo 42 = .ok (.aaload, 1) := by decide +kernel
theorem dX5_convertTo_43 : decode cX5_convertTo 43 = .ok (.iconst 0, 1) := by decide +kernel
theorem dX5_convertTo_44 : decode cX5_convertTo 44 = .ok (.bipush 8, 2) := by decide +kernel
theorem dX5_convertTo_46 : decode cX5_convertTo 46 = .ok (.invokestatic 27, 3) := by decide +kernel
theorem dX5_convertTo_49 : decode cX5_convertTo 49 = .ok (.aload_n 0, 1) := by decide +kernel
theorem dX5_convertTo_50 : decode cX5_convertTo 50 = .ok (.getfield 16, 3) := by decide +kernel
theorem dX5_convertTo_53 : decode cX5_convertTo 53 = .ok (.getfield 33, 3) := by decide +kernel
theorem dX5_convertTo_56 : decode cX5_convertTo 56 = .ok (.iload_n 2, 1) := by decide +kernel
theorem dX5_convertTo_57 : decode cX5_convertTo 57 = .ok (.aaload, 1) := by decide +kernel
theorem dX5_convertTo_58 : decode cX5_convertTo 58 = .ok (.aload_n 0, 1) := by decide +kernel
theorem dX5_convertTo_59 : decode cX5_convertTo 59 = .ok (.getfield 11, 3) := by decide +kernel
theorem dX5_convertTo_62 : decode cX5_convertTo 62 = .ok (.iload_n 2, 1) := by decide +kernel
theorem dX5_convertTo_63 : decode cX5_convertTo 63 = .ok (.aaload, 1) := by decide +kernel
theorem dX5_convertTo_64 : decode cX5_convertTo 64 = .ok (.invokevirtual 39, 3) := by decide +kernel
theorem dX5_convertTo_67 : decode cX5_convertTo 67 = .ok (.ifCond .ne 5, 3) := by decide +kernel
theorem dX5_convertTo_70 : decode cX5_convertTo 70 = .ok (.iconst 0, 1) := by decide +kernel
theorem dX5_convertTo_71 : decode cX5_convertTo 71 = .ok (.ireturn, 1) := by decide +kernel
theorem dX5_convertTo_72 : decode cX5_convertTo 72 = .ok (.iinc 2 1, 3) := by decide +kernel
theorem dX5_convertTo_75 : decode cX5_convertTo 75 = .ok (.goto (-52), 3) := by decide +kernel
theorem dX5_convertTo_78 : decode cX5_convertTo 78 = .ok (.aload_n 0, 1) := by decide +kernel
theorem dX5_convertTo_79 : decode cX5_convertTo 79 = .ok (.iload_n 1, 1) := by decide +kernel
theorem dX5_convertTo_80 : decode cX5_convertTo 80 = .ok (.putfield 24, 3) := by decide +kernel
theorem dX5_convertTo_83 : decode cX5_convertTo 83 = .ok (.iconst 1, 1) := by decide +kernel
theorem dX5_convertTo_84 : decode cX5_convertTo 84 = .ok (.ireturn, 1) := by decide +kernel
theorem dX5_revert_0 : decode cX5_revert 0 = .ok (.aload_n 0, 1) := by decide +kernel
theorem dX5_revert_1 : decode cX5_revert 1 = .ok (.getfield 24, 3) := by decide +kernel
theorem dX5_revert_4 : decode cX5_revert 4 = .ok (.aload_n 0, 1) := by decide +kernel
theorem dX5_revert_5 : decode cX5_revert 5 = .ok (.getfield 20, 3) := by decide +kernel
theorem dX5_revert_8 : decode cX5_revert 8 = .ok (.if_icmp .le 13, 3) := by decide +kernel
theorem dX5_revert_11 : decode cX5_revert 11 = .ok (.aload_n 0, 1) := by decide +kernel
theorem dX5_revert_12 : decode cX5_revert 12 = .ok (.dup, 1) := by decide +kernel
theorem dX5_revert_13 : decode cX5_revert 13 = .ok (.getfield 24, 3) := by decide +kernel
theorem dX5_revert_16 : decode cX5_revert 16 = .ok (.iconst 1, 1) := by decide +kernel
theorem dX5_revert_17 : decode cX5_revert 17 = .ok (.isub, 1) := by decide +kernel
theorem dX5_revert_18 : decode cX5_revert 18 = .ok (.putfield 24, 3) := by decide +kernel
theorem dX5_revert_21 : decode cX5_revert 21 = .ok (.return_, 1) := by decide +kernel
theorem dJ9_min_7cf53_0 : decode cJ9_min_7cf53 0 = .ok (.iload_n 0, 1) := by decide +kernel
theorem dJ9_min_7cf53_1 : decode cJ9_min_7cf53 1 = .ok (.iload_n 1, 1) := by decide +kernel
theorem dJ9_min_7cf53_2 : decode cJ9_min_7cf53 2 = .ok (.if_icmp .gt 7, 3) := by decide +kernel
theorem dJ9_min_7cf53_5 : decode cJ9_min_7cf53 5 = .ok (.iload_n 0, 1) := by decide +kernel
theorem dJ9_min_7cf53_6 : decode cJ9_min_7cf53 6 = .ok (.goto 4, 3) := by decide +kernel
theorem dJ9_min_7cf53_9 : decode cJ9_min_7cf53 9 = .ok (.iload_n 1, 1) := by decide +kernel
theorem dJ9_min_7cf53_10 : decode cJ9_min_7cf53 10 = .ok (.ireturn, 1) := by decide +kernel
set_option maxRecDepth 20000 in
theorem ggX6_init_X0_init : GoodIn wsX6_init wsX0_init := goodIn_r _ [13, 14, 2, 3, 15, 16, 22, 23] (by decide +kernel) (by decide +kernel)
set_option maxRecDepth 20000 in
theorem gX6_init_X0_init_n21 : GoodIn wsX6_init (wsX0_init) := ggX6_init_X0_init
theorem dX6_init_0 : decode cX6_init 0 = .ok (.aload_n 0, 1) := by decide +kernel
theorem dX6_init_1 : decode cX6_init 1 = .ok (.invokespecial 1, 3) := by decide +kernel
theorem dX6_init_4 : decode cX6_init 4 = .ok (.aload_n 0, 1) := by decide +kernel
theorem dX6_init_5 : decode cX6_init 5 = .ok (.bipush 6, 2) := by decide +kernel
theorem dX6_init_7 : decode cX6_init 7 = .ok (.anewarray 9, 3) := by decide +kernel
theorem dX6_init_10 : decode cX6_init 10 = .ok (.putfield 11, 3) := by decide +kernel
theorem dX6_init_13 : decode cX6_init 13 = .ok (.aload_n 0, 1) := by decide +kernel
theorem dX6_init_14 : decode cX6_init 14 = .ok (.iconst 4, 1) := by decide +kernel
theorem dX6_init_15 : decode cX6_init 15 = .ok (.anewarray 15, 3) := by decide +kernel
theorem dX6_init_18 : decode cX6_init 18 = .ok (.putfield 17, 3) := by decide +kernel
theorem dX6_init_21 : decode cX6_init 21 = .ok (.iconst 0, 1) := by decide +kernel
theorem dX6_init_22 : decode cX6_init 22 = .ok (.istore_n 1, 1) := by decide +kernel
theorem dX6_init_23 : decode cX6_init 23 = .ok (.iload_n 1, 1) := by decide +kernel
theorem dX6_init_24 : decode cX6_init 24 = .ok (.iconst 4, 1) := by decide +kernel
theorem dX6_init_25 : decode cX6_init 25 = .ok (.if_icmp .ge 22, 3) := by decide +kernel
theorem dX6_init_28 : decode cX6_init 28 = .ok (.aload_n 0, 1) := by decide +kernel
theorem dX6_init_29 : decode cX6_init 29 = .ok (.getfield 17, 3) := by decide +kernel
theorem dX6_init_32 : decode cX6_init 32 = .ok (.iload_n 1, 1) := by decide +kernel
theorem dX6_init_33 : decode cX6_init 33 = .ok (.new 15, 3) := by decide +kernel
theorem dX6_init_36 : decode cX6_init 36 = .ok (.dup, 1) := by decide +kernel
theorem dX6_init_37 : decode cX6_init 37 = .ok (.invokespecial 21, 3) := by decide +kernel
theorem dX6_init_40 : decode cX6_init 40 = .ok (.aastore, 1) := by decide +kernel
theorem dX6_init_41 : decode cX6_init 41 = .ok (.iinc 1 1, 3) := by decide +kernel
theorem dX6_init_44 : decode cX6_init 44 = .ok (.goto (-21), 3) := by decide +kernel
theorem dX6_init_47 : decode cX6_init 47 = .ok (.aload_n 0, 1) := by decide +kernel
theorem dX6_init_48 : decode cX6_init 48 = .ok (.bipush 24, 2) := by decide +kernel
theorem dX6_init_50 : decode cX6_init 50 = .ok (.anewarray 22, 3) := by decide +kernel
theorem dX6_init_53 : decode cX6_init 53 = .ok (.putfield 24, 3) := by decide +kernel
theorem dX6_init_56 : decode cX6_init 56 = .ok (.return_, 1) := by decide +kernel
set_option maxRecDepth 20000 in
theorem ggX6_addClass_X1_init : GoodIn wsX6_addClass wsX1_init := goodIn_r _ [10, 11, 12, 13, 14, 15, 16, 17, 18, 19, 20, 21, 22, 23, 24, 25, 31, 32, 33, 34, 35, 36, 37] (by decide +kernel) (by decide +kernel)
set_option maxRecDepth 20000 in
theorem gX6_addClass_X1_init : GoodIn wsX6_addClass (wsX1_init) := ggX6_addClass_X1_init
theorem dX6_addClass_0 : decode cX6_addClass 0 = .ok (.iload_n 1, 1) := by decide +kernel
theorem dX6_addClass_1 : decode cX6_addClass 1 = .ok (.ifCond .lt 10, 3) := by decide +kernel
theorem dX6_addClass_4 : decode cX6_addClass 4 = .ok (.iload_n 1, 1) := by decide +kernel
theorem dX6_addClass_5 : decode cX6_addClass 5 = .ok (.sipush 255, 3) := by decide +kernel
theorem dX6_addClass_8 : decode cX6_addClass 8 = .ok (.if_icmp .le 6, 3) := by decide +kernel
theorem dX6_addClass_11 : decode cX6_addClass 11 = .ok (.ldc 28, 2) := by decide +kernel
theorem dX6_addClass_13 : decode cX6_addClass 13 = .ok (.ireturn, 1) := by decide +kernel
theorem dX6_addClass_14 : decode cX6_addClass 14 = .ok (.aload_n 0, 1) := by decide +kernel
theorem dX6_addClass_15 : decode cX6_addClass 15 = .ok (.getfield 29, 3) := by decide +kernel
theorem dX6_addClass_18 : decode cX6_addClass 18 = .ok (.bipush 6, 2) := by decide +kernel
theorem dX6_addClass_20 : decode cX6_addClass 20 = .ok (.if_icmp .lt 6, 3) := by decide +kernel
theorem dX6_addClass_23 : decode cX6_addClass 23 = .ok (.ldc 33, 2) := by decide +kernel
theorem dX6_addClass_25 : decode cX6_addClass 25 = .ok (.ireturn, 1) := by decide +kernel
theorem dX6_addClass_26 : decode cX6_addClass 26 = .ok (.aload_n 0, 1) := by decide +kernel
theorem dX6_addClass_27 : decode cX6_addClass 27 = .ok (.getfield 29, 3) := by decide +kernel
theorem dX6_addClass_30 : decode cX6_addClass 30 = .ok (.istore_n 2, 1) := by decide +kernel
theorem dX6_addClass_31 : decode cX6_addClass 31 = .ok (.aload_n 0, 1) := by decide +kernel
theorem dX6_addClass_32 : decode cX6_addClass 32 = .ok (.getfield 11, 3) := by decide +kernel
theorem dX6_addClass_35 : decode cX6_addClass 35 = .ok (.iload_n 2, 1) := by decide +kernel
theorem dX6_addClass_36 : decode cX6_addClass 36 = .ok (.new 9, 3) := by decide +kernel
theorem dX6_addClass_39 : decode cX6_addClass 39 = .ok (.dup, 1) := by decide +kernel
theorem dX6_addClass_40 : decode cX6_addClass 40 = .ok (.iload_n 2, 1) := by decide +kernel
theorem dX6_addClass_41 : decode cX6_addClass 41 = .ok (.iload_n 1, 1) := by decide +kernel
theorem dX6_addClass_42 : decode cX6_addClass 42 = .ok (.invokespecial 34, 3) := by decide +kernel
theorem dX6_addClass_45 : decode cX6_addClass 45 = .ok (.aastore, 1) := by decide +kernel
theorem dX6_addClass_46 : decode cX6_addClass 46 = .ok (.aload_n 0, 1) := by decide +kernel
theorem dX6_addClass_47 : decode cX6_addClass 47 = .ok (.dup, 1) := by decide +kernel
theorem dX6_addClass_48 : decode cX6_addClass 48 = .ok (.getfield 29, 3) := by decide +kernel
theorem dX6_addClass_51 : decode cX6_addClass 51 = .ok (.iconst 1, 1) := by decide +kernel
theorem dX6_addClass_52 : decode cX6_addClass 52 = .ok (.iadd, 1) := by decide +kernel
theorem dX6_addClass_53 : decode cX6_addClass 53 = .ok (.putfield 29, 3) := by decide +kernel
theorem dX6_addClass_56 : decode cX6_addClass 56 = .ok (.iload_n 2, 1) := by decide +kernel
theorem dX6_addClass_57 : decode cX6_addClass 57 = .ok (.ireturn, 1) := by decide +kernel
set_option maxRecDepth 20000 in
theorem ggX6_currentVersion_X6_historyOf : GoodIn wsX6_currentVersion wsX6_historyOf := goodIn_r _ [6, 7, 8, 14, 15, 16, 17, 18] (by decide +kernel) (by decide +kernel)
set_option maxRecDepth 20000 in
theorem gX6_currentVersion_X6_historyOf : GoodIn wsX6_currentVersion (wsV RX6 37 RX6 yX6_historyOf wsX6_historyOf) := goodIn_app (goodIn_of _ (by decide +kernel)) ggX6_currentVersion_X6_historyOf
theorem dX6_currentVersion_0 : decode cX6_currentVersion 0 = .ok (.aload_n 0, 1) := by decide +kernel
theorem dX6_currentVersion_1 : decode cX6_currentVersion 1 = .ok (.iload_n 1, 1) := by decide +kernel
theorem dX6_currentVersion_2 : decode cX6_currentVersion 2 = .ok (.invokevirtual 37, 3) := by decide +kernel
theorem dX6_currentVersion_5 : decode cX6_currentVersion 5 = .ok (.astore_n 2, 1) := by decide +kernel
theorem dX6_currentVersion_6 : decode cX6_currentVersion 6 = .ok (.aload_n 2, 1) := by decide +kernel
theorem dX6_currentVersion_7 : decode cX6_currentVersion 7 = .ok (.ifnonnull 6, 3) := by decide +kernel
theorem dX6_currentVersion_10 : decode cX6_currentVersion 10 = .ok (.ldc 41, 2) := by decide +kernel
theorem dX6_currentVersion_12 : decode cX6_currentVersion 12 = .ok (.ireturn, 1) := by decide +kernel
theorem dX6_currentVersion_13 : decode cX6_currentVersion 13 = .ok (.aload_n 2, 1) := by decide +kernel
theorem dX6_currentVersion_14 : decode cX6_currentVersion 14 = .ok (.getfield 42, 3) := by decide +kernel
theorem dX6_currentVersion_17 : decode cX6_currentVersion 17 = .ok (.ireturn, 1) := by decide +kernel
set_option maxRecDepth 20000 in
theorem ggX6_fields_X6_historyOf : GoodIn wsX6_fields wsX6_historyOf := goodIn_r _ [7, 8, 9, 21, 22, 23, 24, 25] (by decide +kernel) (by decide +kernel)
set_option maxRecDepth 20000 in
theorem gX6_fields_X6_historyOf : GoodIn wsX6_fields (wsV RX6 37 RX6 yX6_historyOf wsX6_historyOf) := goodIn_app (goodIn_of _ (by decide +kernel)) ggX6_fields_X6_historyOf
set_option maxRecDepth 20000 in
theorem ggX6_fields_X1_fieldSet : GoodIn wsX6_fields wsX1_fieldSet := goodIn_r _ [14, 15, 16, 17, 18, 19, 20] (by decide +kernel) (by decide +kernel)
set_option maxRecDepth 20000 in
theorem gX6_fields_X1_fieldSet : GoodIn wsX6_fields (wsV RX6 46 RX1 yX1_fieldSet wsX1_fieldSet) := goodIn_app (goodIn_of _ (by decide +kernel)) ggX6_fields_X1_fieldSet
theorem dX6_fields_0 : decode cX6_fields 0 = .ok (.aload_n 0, 1) := by decide +kernel
theorem dX6_fields_1 : decode cX6_fields 1 = .ok (.iload_n 1, 1) := by decide +kernel
theorem dX6_fields_2 : decode cX6_fields 2 = .ok (.invokevirtual 37, 3) := by decide +kernel
theorem dX6_fields_5 : decode cX6_fields 5 = .ok (.astore_n 3, 1) := by decide +kernel
theorem dX6_fields_6 : decode cX6_fields 6 = .ok (.aload_n 3, 1) := by decide +kernel
theorem dX6_fields_7 : decode cX6_fields 7 = .ok (.ifnonnull 6, 3) := by decide +kernel
theorem dX6_fields_10 : decode cX6_fields 10 = .ok (.ldc 41, 2) := by decide +kernel
theorem dX6_fields_12 : decode cX6_fields 12 = .ok (.ireturn, 1) := by decide +kernel
theorem dX6_fields_13 : decode cX6_fields 13 = .ok (.iload_n 2, 1) := by decide +kernel
theorem dX6_fields_14 : decode cX6_fields 14 = .ok (.ifCond .lt 11, 3) := by decide +kernel
theorem dX6_fields_17 : decode cX6_fields 17 = .ok (.iload_n 2, 1) := by decide +kernel
theorem dX6_fields_18 : decode cX6_fields 18 = .ok (.aload_n 3, 1) := by decide +kernel
theorem dX6_fields_19 : decode cX6_fields 19 = .ok (.getfield 42, 3) := by decide +kernel
theorem dX6_fields_22 : decode cX6_fields 22 = .ok (.if_icmp .le 6, 3) := by decide +kernel
theorem dX6_fields_25 : decode cX6_fields 25 = .ok (.ldc 45, 2) := by decide +kernel
theorem dX6_fields_27 : decode cX6_fields 27 = .ok (.ireturn, 1) := by decide +kernel
theorem dX6_fields_28 : decode cX6_fields 28 = .ok (.aload_n 3, 1) := by decide +kernel
theorem dX6_fields_29 : decode cX6_fields 29 = .ok (.iload_n 2, 1) := by decide +kernel
theorem dX6_fields_30 : decode cX6_fields 30 = .ok (.invokevirtual 46, 3) := by decide +kernel
theorem dX6_fields_33 : decode cX6_fields 33 = .ok (.ireturn, 1) := by decide +kernel
set_option maxRecDepth 20000 in
theorem ggX6_stage_X6_historyOf : GoodIn wsX6_stage wsX6_historyOf := goodIn_r _ [7, 8, 9, 35, 36, 37, 38, 39] (by decide +kernel) (by decide +kernel)
set_option maxRecDepth 20000 in
theorem gX6_stage_X6_historyOf : GoodIn wsX6_stage (wsV RX6 37 RX6 yX6_historyOf wsX6_historyOf) := goodIn_app (goodIn_of _ (by decide +kernel)) ggX6_stage_X6_historyOf
set_option maxRecDepth 20000 in
theorem ggX6_stage_X1_beginStaged : GoodIn wsX6_stage wsX1_beginStaged := goodIn_r _ [14, 15, 16, 17, 18, 19, 20, 21, 22, 13, 23, 24, 25, 26, 27, 28, 29, 30, 31, 32, 33, 34, 40, 41] (by decide +kernel) (by decide +kernel)
set_option maxRecDepth 20000 in
theorem gX6_stage_X1_beginStaged : GoodIn wsX6_stage (wsV RX6 55 RX1 yX1_beginStaged wsX1_beginStaged) := goodIn_app (goodIn_of _ (by decide +kernel)) ggX6_stage_X1_beginStaged
theorem dX6_stage_0 : decode cX6_stage 0 = .ok (.aload_n 0, 1) := by decide +kernel
theorem dX6_stage_1 : decode cX6_stage 1 = .ok (.iload_n 1, 1) := by decide +kernel
theorem dX6_stage_2 : decode cX6_stage 2 = .ok (.invokevirtual 37, 3) := by decide +kernel
theorem dX6_stage_5 : decode cX6_stage 5 = .ok (.astore_n 2, 1) := by decide +kernel
theorem dX6_stage_6 : decode cX6_stage 6 = .ok (.aload_n 2, 1) := by decide +kernel
theorem dX6_stage_7 : decode cX6_stage 7 = .ok (.ifnonnull 6, 3) := by decide +kernel
theorem dX6_stage_10 : decode cX6_stage 10 = .ok (.ldc 41, 2) := by decide +kernel
theorem dX6_stage_12 : decode cX6_stage 12 = .ok (.ireturn, 1) := by decide +kernel
theorem dX6_stage_13 : decode cX6_stage 13 = .ok (.aload_n 2, 1) := by decide +kernel
theorem dX6_stage_14 : decode cX6_stage 14 = .ok (.getfield 50, 3) := by decide +kernel
theorem dX6_stage_17 : decode cX6_stage 17 = .ok (.ifCond .eq 6, 3) := by decide +kernel
theorem dX6_stage_20 : decode cX6_stage 20 = .ok (.ldc 54, 2) := by decide +kernel
theorem dX6_stage_22 : decode cX6_stage 22 = .ok (.ireturn, 1) := by decide +kernel
theorem dX6_stage_23 : decode cX6_stage 23 = .ok (.aload_n 2, 1) := by decide +kernel
theorem dX6_stage_24 : decode cX6_stage 24 = .ok (.invokevirtual 55, 3) := by decide +kernel
theorem dX6_stage_27 : decode cX6_stage 27 = .ok (.ireturn, 1) := by decide +kernel
set_option maxRecDepth 20000 in
theorem ggX6_stagedFields_X6_historyOf : GoodIn wsX6_stagedFields wsX6_historyOf := goodIn_r _ [7, 8, 9, 26, 27, 28, 29, 30] (by decide +kernel) (by decide +kernel)
set_option maxRecDepth 20000 in
theorem gX6_stagedFields_X6_historyOf : GoodIn wsX6_stagedFields (wsV RX6 37 RX6 yX6_historyOf wsX6_historyOf) := goodIn_app (goodIn_of _ (by decide +kernel)) ggX6_stagedFields_X6_historyOf
set_option maxRecDepth 20000 in
theorem ggX6_stagedFields_X1_stagedSet : GoodIn wsX6_stagedFields wsX1_stagedSet := goodIn_r _ [14, 15, 16, 17, 18, 13, 19, 20, 21, 22, 23, 24, 25] (by decide +kernel) (by decide +kernel)
set_option maxRecDepth 20000 in
theorem gX6_stagedFields_X1_stagedSet : GoodIn wsX6_stagedFields (wsV RX6 60 RX1 yX1_stagedSet wsX1_stagedSet) := goodIn_app (goodIn_of _ (by decide +kernel)) ggX6_stagedFields_X1_stagedSet
theorem dX6_stagedFields_0 : decode cX6_stagedFields 0 = .ok (.aload_n 0, 1) := by decide +kernel
theorem dX6_stagedFields_1 : decode cX6_stagedFields 1 = .ok (.iload_n 1, 1) := by decide +kernel
theorem dX6_stagedFields_2 : decode cX6_stagedFields 2 = .ok (.invokevirtual 37, 3) := by decide +kernel
theorem dX6_stagedFields_5 : decode cX6_stagedFields 5 = .ok (.astore_n 2, 1) := by decide +kernel
theorem dX6_stagedFields_6 : decode cX6_stagedFields 6 = .ok (.aload_n 2, 1) := by decide +kernel
theorem dX6_stagedFields_7 : decode cX6_stagedFields 7 = .ok (.ifnonnull 6, 3) := by decide +kernel
theorem dX6_stagedFields_10 : decode cX6_stagedFields 10 = .ok (.ldc 41, 2) := by decide +kernel
theorem dX6_stagedFields_12 : decode cX6_stagedFields 12 = .ok (.ireturn, 1) := by decide +kernel
theorem dX6_stagedFields_13 : decode cX6_stagedFields 13 = .ok (.aload_n 2, 1) := by decide +kernel
theorem dX6_stagedFields_14 : decode cX6_stagedFields 14 = .ok (.getfield 50, 3) := by decide +kernel
theorem dX6_stagedFields_17 : decode cX6_stagedFields 17 = .ok (.ifCond .ne 6, 3) := by decide +kernel
theorem dX6_stagedFields_20 : decode cX6_stagedFields 20 = .ok (.ldc 59, 2) := by decide +kernel
theorem dX6_stagedFields_22 : decode cX6_stagedFields 22 = .ok (.ireturn, 1) := by decide +kernel
theorem dX6_stagedFields_23 : decode cX6_stagedFields 23 = .ok (.aload_n 2, 1) := by decide +kernel
theorem dX6_stagedFields_24 : decode cX6_stagedFields 24 = .ok (.invokevirtual 60, 3) := by decide +kernel
theorem dX6_stagedFields_27 : decode cX6_stagedFields 27 = .ok (.ireturn, 1) := by decide +kernel
set_option maxRecDepth 20000 in
theorem ggX6_addField_X6_historyOf : GoodIn wsX6_addField wsX6_historyOf := goodIn_r _ [9, 10, 11, 78, 79, 80, 81, 82] (by decide +kernel) (by decide +kernel)
set_option maxRecDepth 20000 in
theorem gX6_addField_X6_historyOf : GoodIn wsX6_addField (wsV RX6 37 RX6 yX6_historyOf wsX6_historyOf) := goodIn_app (goodIn_of _ (by decide +kernel)) ggX6_addField_X6_historyOf
set_option maxRecDepth 20000 in
theorem ggX6_addField_X6_isField : GoodIn wsX6_addField wsX6_isField := goodIn_r _ [14] (by decide +kernel) (by decide +kernel)
set_option maxRecDepth 20000 in
theorem gX6_addField_X6_isField : GoodIn wsX6_addField (va_wsS RX6 63 yX6_isField wsX6_isField) := goodIn_app (goodIn_of _ (by decide +kernel)) ggX6_addField_X6_isField
set_option maxRecDepth 20000 in
theorem ggX6_addField_X6_isValue : GoodIn wsX6_addField wsX6_isValue := goodIn_r _ [17, 18, 19] (by decide +kernel) (by decide +kernel)
set_option maxRecDepth 20000 in
theorem gX6_addField_X6_isValue : GoodIn wsX6_addField (va_wsS RX6 67 yX6_isValue wsX6_isValue) := goodIn_app (goodIn_of _ (by decide +kernel)) ggX6_addField_X6_isValue
set_option maxRecDepth 20000 in
theorem ggX6_addField_X1_stagedSet : GoodIn wsX6_addField wsX1_stagedSet := goodIn_r _ [24, 25, 26, 27, 28, 23, 29, 30, 73, 74, 75, 76, 77] (by decide +kernel) (by decide +kernel)
set_option maxRecDepth 20000 in
theorem gX6_addField_X1_stagedSet : GoodIn wsX6_addField (wsV RX6 60 RX1 yX1_stagedSet wsX1_stagedSet) := goodIn_app (goodIn_of _ (by decide +kernel)) ggX6_addField_X1_stagedSet
set_option maxRecDepth 20000 in
theorem ggX6_addField_X6_contains : GoodIn wsX6_addField wsX6_contains := goodIn_r _ [33, 12, 13, 8, 14] (by decide +kernel) (by decide +kernel)
set_option maxRecDepth 20000 in
theorem gX6_addField_X6_contains : GoodIn wsX6_addField (va_wsS RX6 71 yX6_contains wsX6_contains) := goodIn_app (goodIn_of _ (by decide +kernel)) ggX6_addField_X6_contains
set_option maxRecDepth 20000 in
theorem ggX6_addField_X1_append : GoodIn wsX6_addField wsX1_append := goodIn_r _ [37, 38, 25, 39, 40, 41, 42, 30, 43, 44, 45, 23, 46, 47, 48, 49, 50, 51, 52, 53, 54, 55, 56, 57, 58, 59, 60, 61, 62, 63, 64, 65, 66, 67, 68, 69, 70, 71, 72, 73, 74, 75, 76, 77, 83, 84, 85, 86, 87] (by decide +kernel) (by decide +kernel)
set_option maxRecDepth 20000 in
theorem gX6_addField_X1_append : GoodIn wsX6_addField (wsV RX6 77 RX1 yX1_append wsX1_append) := goodIn_app (goodIn_of _ (by decide +kernel)) ggX6_addField_X1_append
theorem dX6_addField_0 : decode cX6_addField 0 = .ok (.aload_n 0, 1) := by decide +kernel
theorem dX6_addField_1 : decode cX6_addField 1 = .ok (.iload_n 1, 1) := by decide +kernel
theorem dX6_addField_2 : decode cX6_addField 2 = .ok (.invokevirtual 37, 3) := by decide +kernel
theorem dX6_addField_5 : decode cX6_addField 5 = .ok (.astore 4, 2) := by decide +kernel
theorem dX6_addField_7 : decode cX6_addField 7 = .ok (.aload 4, 2) := by decide +kernel
theorem dX6_addField_9 : decode cX6_addField 9 = .ok (.ifnonnull 6, 3) := by decide +kernel
theorem dX6_addField_12 : decode cX6_addField 12 = .ok (.ldc 41, 2) := by decide +kernel
theorem dX6_addField_14 : decode cX6_addField 14 = .ok (.ireturn, 1) := by decide +kernel
theorem dX6_addField_15 : decode cX6_addField 15 = .ok (.aload 4, 2) := by decide +kernel
theorem dX6_addField_17 : decode cX6_addField 17 = .ok (.getfield 50, 3) := by decide +kernel
theorem dX6_addField_20 : decode cX6_addField 20 = .ok (.ifCond .ne 6, 3) := by decide +kernel
theorem dX6_addField_23 : decode cX6_addField 23 = .ok (.ldc 59, 2) := by decide +kernel
theorem dX6_addField_25 : decode cX6_addField 25 = .ok (.ireturn, 1) := by decide +kernel
theorem dX6_addField_26 : decode cX6_addField 26 = .ok (.iload_n 2, 1) := by decide +kernel
theorem dX6_addField_27 : decode cX6_addField 27 = .ok (.invokestatic 63, 3) := by decide +kernel
theorem dX6_addField_30 : decode cX6_addField 30 = .ok (.ifCond .eq 11, 3) := by decide +kernel
theorem dX6_addField_33 : decode cX6_addField 33 = .ok (.iload_n 3, 1) := by decide +kernel
theorem dX6_addField_34 : decode cX6_addField 34 = .ok (.i2l, 1) := by decide +kernel
theorem dX6_addField_35 : decode cX6_addField 35 = .ok (.invokestatic 67, 3) := by decide +kernel
theorem dX6_addField_38 : decode cX6_addField 38 = .ok (.ifCond .ne 6, 3) := by decide +kernel
theorem dX6_addField_41 : decode cX6_addField 41 = .ok (.ldc 28, 2) := by decide +kernel
theorem dX6_addField_43 : decode cX6_addField 43 = .ok (.ireturn, 1) := by decide +kernel
theorem dX6_addField_44 : decode cX6_addField 44 = .ok (.aload 4, 2) := by decide +kernel
theorem dX6_addField_46 : decode cX6_addField 46 = .ok (.invokevirtual 60, 3) := by decide +kernel
theorem dX6_addField_49 : decode cX6_addField 49 = .ok (.iload_n 2, 1) := by decide +kernel
theorem dX6_addField_50 : decode cX6_addField 50 = .ok (.invokestatic 71, 3) := by decide +kernel
theorem dX6_addField_53 : decode cX6_addField 53 = .ok (.ifCond .eq 6, 3) := by decide +kernel
theorem dX6_addField_56 : decode cX6_addField 56 = .ok (.ldc 54, 2) := by decide +kernel
theorem dX6_addField_58 : decode cX6_addField 58 = .ok (.ireturn, 1) := by decide +kernel
theorem dX6_addField_59 : decode cX6_addField 59 = .ok (.aload 4, 2) := by decide +kernel
theorem dX6_addField_61 : decode cX6_addField 61 = .ok (.iconst 0, 1) := by decide +kernel
theorem dX6_addField_62 : decode cX6_addField 62 = .ok (.iload_n 2, 1) := by decide +kernel
theorem dX6_addField_63 : decode cX6_addField 63 = .ok (.iload_n 3, 1) := by decide +kernel
theorem dX6_addField_64 : decode cX6_addField 64 = .ok (.invokevirtual 77, 3) := by decide +kernel
theorem dX6_addField_67 : decode cX6_addField 67 = .ok (.ireturn, 1) := by decide +kernel
set_option maxRecDepth 20000 in
theorem ggX6_dropField_X6_historyOf : GoodIn wsX6_dropField wsX6_historyOf := goodIn_r _ [8, 9, 10, 72, 73, 74, 75, 76] (by decide +kernel) (by decide +kernel)
set_option maxRecDepth 20000 in
theorem gX6_dropField_X6_historyOf : GoodIn wsX6_dropField (wsV RX6 37 RX6 yX6_historyOf wsX6_historyOf) := goodIn_app (goodIn_of _ (by decide +kernel)) ggX6_dropField_X6_historyOf
set_option maxRecDepth 20000 in
theorem ggX6_dropField_X1_stagedSet : GoodIn wsX6_dropField wsX1_stagedSet := goodIn_r _ [15, 16, 17, 18, 19, 14, 20, 21, 67, 68, 69, 70, 71] (by decide +kernel) (by decide +kernel)
set_option maxRecDepth 20000 in
theorem gX6_dropField_X1_stagedSet : GoodIn wsX6_dropField (wsV RX6 60 RX1 yX1_stagedSet wsX1_stagedSet) := goodIn_app (goodIn_of _ (by decide +kernel)) ggX6_dropField_X1_stagedSet
set_option maxRecDepth 20000 in
theorem ggX6_dropField_X6_contains : GoodIn wsX6_dropField wsX6_contains := goodIn_r _ [24, 25, 26, 7, 27] (by decide +kernel) (by decide +kernel)
set_option maxRecDepth 20000 in
theorem gX6_dropField_X6_contains : GoodIn wsX6_dropField (va_wsS RX6 71 yX6_contains wsX6_contains) := goodIn_app (goodIn_of _ (by decide +kernel)) ggX6_dropField_X6_contains
set_option maxRecDepth 20000 in
theorem ggX6_dropField_X1_append : GoodIn wsX6_dropField wsX1_append := goodIn_r _ [31, 32, 16, 33, 34, 35, 36, 21, 37, 38, 39, 14, 40, 41, 42, 43, 44, 45, 46, 47, 48, 49, 50, 51, 52, 53, 54, 55, 56, 57, 58, 59, 60, 61, 62, 63, 64, 65, 66, 67, 68, 69, 70, 71, 77, 78, 79, 80, 81] (by decide +kernel) (by decide +kernel)
set_option maxRecDepth 20000 in
theorem gX6_dropField_X1_append : GoodIn wsX6_dropField (wsV RX6 77 RX1 yX1_append wsX1_append) := goodIn_app (goodIn_of _ (by decide +kernel)) ggX6_dropField_X1_append
theorem dX6_dropField_0 : decode cX6_dropField 0 = .ok (.aload_n 0, 1) := by decide +kernel
theorem dX6_dropField_1 : decode cX6_dropField 1 = .ok (.iload_n 1, 1) := by decide +kernel
theorem dX6_dropField_2 : decode cX6_dropField 2 = .ok (.invokevirtual 37, 3) := by decide +kernel
theorem dX6_dropField_5 : decode cX6_dropField 5 = .ok (.astore_n 3, 1) := by decide +kernel
theorem dX6_dropField_6 : decode cX6_dropField 6 = .ok (.aload_n 3, 1) := by decide +kernel
theorem dX6_dropField_7 : decode cX6_dropField 7 = .ok (.ifnonnull 6, 3) := by decide +kernel
theorem dX6_dropField_10 : decode cX6_dropField 10 = .ok (.ldc 41, 2) := by decide +kernel
theorem dX6_dropField_12 : decode cX6_dropField 12 = .ok (.ireturn, 1) := by decide +kernel
theorem dX6_dropField_13 : decode cX6_dropField 13 = .ok (.aload_n 3, 1) := by decide +kernel
theorem dX6_dropField_14 : decode cX6_dropField 14 = .ok (.getfield 50, 3) := by decide +kernel
theorem dX6_dropField_17 : decode cX6_dropField 17 = .ok (.ifCond .ne 6, 3) := by decide +kernel
theorem dX6_dropField_20 : decode cX6_dropField 20 = .ok (.ldc 59, 2) := by decide +kernel
theorem dX6_dropField_22 : decode cX6_dropField 22 = .ok (.ireturn, 1) := by decide +kernel
theorem dX6_dropField_23 : decode cX6_dropField 23 = .ok (.aload_n 3, 1) := by decide +kernel
theorem dX6_dropField_24 : decode cX6_dropField 24 = .ok (.invokevirtual 60, 3) := by decide +kernel
theorem dX6_dropField_27 : decode cX6_dropField 27 = .ok (.iload_n 2, 1) := by decide +kernel
theorem dX6_dropField_28 : decode cX6_dropField 28 = .ok (.invokestatic 71, 3) := by decide +kernel
theorem dX6_dropField_31 : decode cX6_dropField 31 = .ok (.ifCond .ne 6, 3) := by decide +kernel
theorem dX6_dropField_34 : decode cX6_dropField 34 = .ok (.ldc 81, 2) := by decide +kernel
theorem dX6_dropField_36 : decode cX6_dropField 36 = .ok (.ireturn, 1) := by decide +kernel
theorem dX6_dropField_37 : decode cX6_dropField 37 = .ok (.aload_n 3, 1) := by decide +kernel
theorem dX6_dropField_38 : decode cX6_dropField 38 = .ok (.iconst 1, 1) := by decide +kernel
theorem dX6_dropField_39 : decode cX6_dropField 39 = .ok (.iload_n 2, 1) := by decide +kernel
theorem dX6_dropField_40 : decode cX6_dropField 40 = .ok (.iconst 0, 1) := by decide +kernel
theorem dX6_dropField_41 : decode cX6_dropField 41 = .ok (.invokevirtual 77, 3) := by decide +kernel
theorem dX6_dropField_44 : decode cX6_dropField 44 = .ok (.ireturn, 1) := by decide +kernel
set_option maxRecDepth 20000 in
theorem ggX6_renameField_X6_historyOf : GoodIn wsX6_renameField wsX6_historyOf := goodIn_r _ [10, 11, 12, 74, 75, 76, 77, 78] (by decide +kernel) (by decide +kernel)
set_option maxRecDepth 20000 in
theorem gX6_renameField_X6_historyOf : GoodIn wsX6_renameField (wsV RX6 37 RX6 yX6_historyOf wsX6_historyOf) := goodIn_app (goodIn_of _ (by decide +kernel)) ggX6_renameField_X6_historyOf
set_option maxRecDepth 20000 in
theorem ggX6_renameField_X1_stagedSet : GoodIn wsX6_renameField wsX1_stagedSet := goodIn_r _ [17, 18, 19, 20, 21, 16, 22, 23, 69, 70, 71, 72, 73] (by decide +kernel) (by decide +kernel)
set_option maxRecDepth 20000 in
theorem gX6_renameField_X1_stagedSet : GoodIn wsX6_renameField (wsV RX6 60 RX1 yX1_stagedSet wsX1_stagedSet) := goodIn_app (goodIn_of _ (by decide +kernel)) ggX6_renameField_X1_stagedSet
set_option maxRecDepth 20000 in
theorem ggX6_renameField_X6_contains : GoodIn wsX6_renameField wsX6_contains := goodIn_r _ [26, 27, 28, 9, 29] (by decide +kernel) (by decide +kernel)
set_option maxRecDepth 20000 in
theorem gX6_renameField_X6_contains : GoodIn wsX6_renameField (va_wsS RX6 71 yX6_contains wsX6_contains) := goodIn_app (goodIn_of _ (by decide +kernel)) ggX6_renameField_X6_contains
set_option maxRecDepth 20000 in
theorem ggX6_renameField_X6_isField : GoodIn wsX6_renameField wsX6_isField := goodIn_r _ [29] (by decide +kernel) (by decide +kernel)
set_option maxRecDepth 20000 in
theorem gX6_renameField_X6_isField : GoodIn wsX6_renameField (va_wsS RX6 63 yX6_isField wsX6_isField) := goodIn_app (goodIn_of _ (by decide +kernel)) ggX6_renameField_X6_isField
set_option maxRecDepth 20000 in
theorem ggX6_renameField_X1_append : GoodIn wsX6_renameField wsX1_append := goodIn_r _ [33, 34, 18, 35, 36, 37, 38, 23, 39, 40, 41, 16, 42, 43, 44, 45, 46, 47, 48, 49, 50, 51, 52, 53, 54, 55, 56, 57, 58, 59, 60, 61, 62, 63, 64, 65, 66, 67, 68, 69, 70, 71, 72, 73, 79, 80, 81, 82, 83] (by decide +kernel) (by decide +kernel)
set_option maxRecDepth 20000 in
theorem gX6_renameField_X1_append : GoodIn wsX6_renameField (wsV RX6 77 RX1 yX1_append wsX1_append) := goodIn_app (goodIn_of _ (by decide +kernel)) ggX6_renameField_X1_append
theorem dX6_renameField_0 : decode cX6_renameField 0 = .ok (.aload_n 0, 1) := by decide +kernel
theorem dX6_renameField_1 : decode cX6_renameField 1 = .ok (.iload_n 1, 1) := by decide +kernel
theorem dX6_renameField_2 : decode cX6_renameField 2 = .ok (.invokevirtual 37, 3) := by decide +kernel
theorem dX6_renameField_5 : decode cX6_renameField 5 = .ok (.astore 4, 2) := by decide +kernel
theorem dX6_renameField_7 : decode cX6_renameField 7 = .ok (.aload 4, 2) := by decide +kernel
theorem dX6_renameField_9 : decode cX6_renameField 9 = .ok (.ifnonnull 6, 3) := by decide +kernel
theorem dX6_renameField_12 : decode cX6_renameField 12 = .ok (.ldc 41, 2) := by decide +kernel
theorem dX6_renameField_14 : decode cX6_renameField 14 = .ok (.ireturn, 1) := by decide +kernel
theorem dX6_renameField_15 : decode cX6_renameField 15 = .ok (.aload 4, 2) := by decide +kernel
theorem dX6_renameField_17 : decode cX6_renameField 17 = .ok (.getfield 50, 3) := by decide +kernel
theorem dX6_renameField_20 : decode cX6_renameField 20 = .ok (.ifCond .ne 6, 3) := by decide +kernel
theorem dX6_renameField_23 : decode cX6_renameField 23 = .ok (.ldc 59, 2) := by decide +kernel
theorem dX6_renameField_25 : decode cX6_renameField 25 = .ok (.ireturn, 1) := by decide +kernel
theorem dX6_renameField_26 : decode cX6_renameField 26 = .ok (.aload 4, 2) := by decide +kernel
theorem dX6_renameField_28 : decode cX6_renameField 28 = .ok (.invokevirtual 60, 3) := by decide +kernel
theorem dX6_renameField_31 : decode cX6_renameField 31 = .ok (.iload_n 2, 1) := by decide +kernel
theorem dX6_renameField_32 : decode cX6_renameField 32 = .ok (.invokestatic 71, 3) := by decide +kernel
theorem dX6_renameField_35 : decode cX6_renameField 35 = .ok (.ifCond .ne 6, 3) := by decide +kernel
theorem dX6_renameField_38 : decode cX6_renameField 38 = .ok (.ldc 81, 2) := by decide +kernel
theorem dX6_renameField_40 : decode cX6_renameField 40 = .ok (.ireturn, 1) := by decide +kernel
theorem dX6_renameField_41 : decode cX6_renameField 41 = .ok (.iload_n 3, 1) := by decide +kernel
theorem dX6_renameField_42 : decode cX6_renameField 42 = .ok (.invokestatic 63, 3) := by decide +kernel
theorem dX6_renameField_45 : decode cX6_renameField 45 = .ok (.ifCond .ne 6, 3) := by decide +kernel
theorem dX6_renameField_48 : decode cX6_renameField 48 = .ok (.ldc 28, 2) := by decide +kernel
theorem dX6_renameField_50 : decode cX6_renameField 50 = .ok (.ireturn, 1) := by decide +kernel
theorem dX6_renameField_51 : decode cX6_renameField 51 = .ok (.aload 4, 2) := by decide +kernel
theorem dX6_renameField_53 : decode cX6_renameField 53 = .ok (.invokevirtual 60, 3) := by decide +kernel
theorem dX6_renameField_56 : decode cX6_renameField 56 = .ok (.iload_n 3, 1) := by decide +kernel
theorem dX6_renameField_57 : decode cX6_renameField 57 = .ok (.invokestatic 71, 3) := by decide +kernel
theorem dX6_renameField_60 : decode cX6_renameField 60 = .ok (.ifCond .eq 6, 3) := by decide +kernel
theorem dX6_renameField_63 : decode cX6_renameField 63 = .ok (.ldc 54, 2) := by decide +kernel
theorem dX6_renameField_65 : decode cX6_renameField 65 = .ok (.ireturn, 1) := by decide +kernel
theorem dX6_renameField_66 : decode cX6_renameField 66 = .ok (.aload 4, 2) := by decide +kernel
theorem dX6_renameField_68 : decode cX6_renameField 68 = .ok (.iconst 2, 1) := by decide +kernel
theorem dX6_renameField_69 : decode cX6_renameField 69 = .ok (.iload_n 2, 1) := by decide +kernel
theorem dX6_renameField_70 : decode cX6_renameField 70 = .ok (.iload_n 3, 1) := by decide +kernel
theorem dX6_renameField_71 : decode cX6_renameField 71 = .ok (.invokevirtual 77, 3) := by decide +kernel
theorem dX6_renameField_74 : decode cX6_renameField 74 = .ok (.ireturn, 1) := by decide +kernel
set_option maxRecDepth 20000 in
theorem ggX6_scaleField_X6_historyOf : GoodIn wsX6_scaleField wsX6_historyOf := goodIn_r _ [11, 12, 13, 75, 76, 77, 78, 79] (by decide +kernel) (by decide +kernel)
set_option maxRecDepth 20000 in
theorem gX6_scaleField_X6_historyOf : GoodIn wsX6_scaleField (wsV RX6 37 RX6 yX6_historyOf wsX6_historyOf) := goodIn_app (goodIn_of _ (by decide +kernel)) ggX6_scaleField_X6_historyOf
set_option maxRecDepth 20000 in
theorem ggX6_scaleField_X1_stagedSet : GoodIn wsX6_scaleField wsX1_stagedSet := goodIn_r _ [18, 19, 20, 21, 22, 17, 23, 24, 70, 71, 72, 73, 74] (by decide +kernel) (by decide +kernel)
set_option maxRecDepth 20000 in
theorem gX6_scaleField_X1_stagedSet : GoodIn wsX6_scaleField (wsV RX6 60 RX1 yX1_stagedSet wsX1_stagedSet) := goodIn_app (goodIn_of _ (by decide +kernel)) ggX6_scaleField_X1_stagedSet
set_option maxRecDepth 20000 in
theorem ggX6_scaleField_X6_contains : GoodIn wsX6_scaleField wsX6_contains := goodIn_r _ [27, 28, 29, 10, 30] (by decide +kernel) (by decide +kernel)
set_option maxRecDepth 20000 in
theorem gX6_scaleField_X6_contains : GoodIn wsX6_scaleField (va_wsS RX6 71 yX6_contains wsX6_contains) := goodIn_app (goodIn_of _ (by decide +kernel)) ggX6_scaleField_X6_contains
set_option maxRecDepth 20000 in
theorem ggX6_scaleField_X1_append : GoodIn wsX6_scaleField wsX1_append := goodIn_r _ [34, 35, 19, 36, 37, 38, 39, 24, 40, 41, 42, 17, 43, 44, 45, 46, 47, 48, 49, 50, 51, 52, 53, 54, 55, 56, 57, 58, 59, 60, 61, 62, 63, 64, 65, 66, 67, 68, 69, 70, 71, 72, 73, 74, 80, 81, 82, 83, 84] (by decide +kernel) (by decide +kernel)
set_option maxRecDepth 20000 in
theorem gX6_scaleField_X1_append : GoodIn wsX6_scaleField (wsV RX6 77 RX1 yX1_append wsX1_append) := goodIn_app (goodIn_of _ (by decide +kernel)) ggX6_scaleField_X1_append
theorem dX6_scaleField_0 : decode cX6_scaleField 0 = .ok (.aload_n 0, 1) := by decide +kernel
theorem dX6_scaleField_1 : decode cX6_scaleField 1 = .ok (.iload_n 1, 1) := by decide +kernel
theorem dX6_scaleField_2 : decode cX6_scaleField 2 = .ok (.invokevirtual 37, 3) := by decide +kernel
theorem dX6_scaleField_5 : decode cX6_scaleField 5 = .ok (.astore 4, 2) := by decide +kernel
theorem dX6_scaleField_7 : decode cX6_scaleField 7 = .ok (.aload 4, 2) := by decide +kernel
theorem dX6_scaleField_9 : decode cX6_scaleField 9 = .ok (.ifnonnull 6, 3) := by decide +kernel
theorem dX6_scaleField_12 : decode cX6_scaleField 12 = .ok (.ldc 41, 2) := by decide +kernel
theorem dX6_scaleField_14 : decode cX6_scaleField 14 = .ok (.ireturn, 1) := by decide +kernel
theorem dX6_scaleField_15 : decode cX6_scaleField 15 = .ok (.aload 4, 2) := by decide +kernel
theorem dX6_scaleField_17 : decode cX6_scaleField 17 = .ok (.getfield 50, 3) := by decide +kernel
theorem dX6_scaleField_20 : decode cX6_scaleField 20 = .ok (.ifCond .ne 6, 3) := by decide +kernel
theorem dX6_scaleField_23 : decode cX6_scaleField 23 = .ok (.ldc 59, 2) := by decide +kernel
theorem dX6_scaleField_25 : decode cX6_scaleField 25 = .ok (.ireturn, 1) := by decide +kernel
theorem dX6_scaleField_26 : decode cX6_scaleField 26 = .ok (.aload 4, 2) := by decide +kernel
theorem dX6_scaleField_28 : decode cX6_scaleField 28 = .ok (.invokevirtual 60, 3) := by decide +kernel
theorem dX6_scaleField_31 : decode cX6_scaleField 31 = .ok (.iload_n 2, 1) := by decide +kernel
theorem dX6_scaleField_32 : decode cX6_scaleField 32 = .ok (.invokestatic 71, 3) := by decide +kernel
theorem dX6_scaleField_35 : decode cX6_scaleField 35 = .ok (.ifCond .ne 6, 3) := by decide +kernel
theorem dX6_scaleField_38 : decode cX6_scaleField 38 = .ok (.ldc 81, 2) := by decide +kernel
theorem dX6_scaleField_40 : decode cX6_scaleField 40 = .ok (.ireturn, 1) := by decide +kernel
theorem dX6_scaleField_41 : decode cX6_scaleField 41 = .ok (.iload_n 3, 1) := by decide +kernel
theorem dX6_scaleField_42 : decode cX6_scaleField 42 = .ok (.ldc 82, 2) := by decide +kernel
theorem dX6_scaleField_44 : decode cX6_scaleField 44 = .ok (.if_icmp .lt 9, 3) := by decide +kernel
theorem dX6_scaleField_47 : decode cX6_scaleField 47 = .ok (.iload_n 3, 1) := by decide +kernel
theorem dX6_scaleField_48 : decode cX6_scaleField 48 = .ok (.ldc 83, 2) := by decide +kernel
theorem dX6_scaleField_50 : decode cX6_scaleField 50 = .ok (.if_icmp .le 6, 3) := by decide +kernel
theorem dX6_scaleField_53 : decode cX6_scaleField 53 = .ok (.ldc 28, 2) := by decide +kernel
theorem dX6_scaleField_55 : decode cX6_scaleField 55 = .ok (.ireturn, 1) := by decide +kernel
theorem dX6_scaleField_56 : decode cX6_scaleField 56 = .ok (.aload 4, 2) := by decide +kernel
theorem dX6_scaleField_58 : decode cX6_scaleField 58 = .ok (.iconst 3, 1) := by decide +kernel
theorem dX6_scaleField_59 : decode cX6_scaleField 59 = .ok (.iload_n 2, 1) := by decide +kernel
theorem dX6_scaleField_60 : decode cX6_scaleField 60 = .ok (.iload_n 3, 1) := by decide +kernel
theorem dX6_scaleField_61 : decode cX6_scaleField 61 = .ok (.invokevirtual 77, 3) := by decide +kernel
theorem dX6_scaleField_64 : decode cX6_scaleField 64 = .ok (.ireturn, 1) := by decide +kernel
set_option maxRecDepth 20000 in
theorem ggX6_mergeField_X6_historyOf : GoodIn wsX6_mergeField wsX6_historyOf := goodIn_r _ [9, 10, 11, 73, 74, 75, 76, 77] (by decide +kernel) (by decide +kernel)
set_option maxRecDepth 20000 in
theorem gX6_mergeField_X6_historyOf : GoodIn wsX6_mergeField (wsV RX6 37 RX6 yX6_historyOf wsX6_historyOf) := goodIn_app (goodIn_of _ (by decide +kernel)) ggX6_mergeField_X6_historyOf
set_option maxRecDepth 20000 in
theorem ggX6_mergeField_X1_stagedSet : GoodIn wsX6_mergeField wsX1_stagedSet := goodIn_r _ [16, 17, 18, 19, 20, 15, 21, 22, 68, 69, 70, 71, 72] (by decide +kernel) (by decide +kernel)
set_option maxRecDepth 20000 in
theorem gX6_mergeField_X1_stagedSet : GoodIn wsX6_mergeField (wsV RX6 60 RX1 yX1_stagedSet wsX1_stagedSet) := goodIn_app (goodIn_of _ (by decide +kernel)) ggX6_mergeField_X1_stagedSet
set_option maxRecDepth 20000 in
theorem ggX6_mergeField_X6_contains : GoodIn wsX6_mergeField wsX6_contains := goodIn_r _ [25, 26, 27, 8, 28] (by decide +kernel) (by decide +kernel)
set_option maxRecDepth 20000 in
theorem gX6_mergeField_X6_contains : GoodIn wsX6_mergeField (va_wsS RX6 71 yX6_contains wsX6_contains) := goodIn_app (goodIn_of _ (by decide +kernel)) ggX6_mergeField_X6_contains
set_option maxRecDepth 20000 in
theorem ggX6_mergeField_X1_append : GoodIn wsX6_mergeField wsX1_append := goodIn_r _ [32, 33, 17, 34, 35, 36, 37, 22, 38, 39, 40, 15, 41, 42, 43, 44, 45, 46, 47, 48, 49, 50, 51, 52, 53, 54, 55, 56, 57, 58, 59, 60, 61, 62, 63, 64, 65, 66, 67, 68, 69, 70, 71, 72, 78, 79, 80, 81, 82] (by decide +kernel) (by decide +kernel)
set_option maxRecDepth 20000 in
theorem gX6_mergeField_X1_append : GoodIn wsX6_mergeField (wsV RX6 77 RX1 yX1_append wsX1_append) := goodIn_app (goodIn_of _ (by decide +kernel)) ggX6_mergeField_X1_append
theorem dX6_mergeField_0 : decode cX6_mergeField 0 = .ok (.aload_n 0, 1) := by decide +kernel
theorem dX6_mergeField_1 : decode cX6_mergeField 1 = .ok (.iload_n 1, 1) := by decide +kernel
theorem dX6_mergeField_2 : decode cX6_mergeField 2 = .ok (.invokevirtual 37, 3) := by decide +kernel
theorem dX6_mergeField_5 : decode cX6_mergeField 5 = .ok (.astore 4, 2) := by decide +kernel
theorem dX6_mergeField_7 : decode cX6_mergeField 7 = .ok (.aload 4, 2) := by decide +kernel
theorem dX6_mergeField_9 : decode cX6_mergeField 9 = .ok (.ifnonnull 6, 3) := by decide +kernel
theorem dX6_mergeField_12 : decode cX6_mergeField 12 = .ok (.ldc 41, 2) := by decide +kernel
theorem dX6_mergeField_14 : decode cX6_mergeField 14 = .ok (.ireturn, 1) := by decide +kernel
theorem dX6_mergeField_15 : decode cX6_mergeField 15 = .ok (.aload 4, 2) := by decide +kernel
theorem dX6_mergeField_17 : decode cX6_mergeField 17 = .ok (.getfield 50, 3) := by decide +kernel
theorem dX6_mergeField_20 : decode cX6_mergeField 20 = .ok (.ifCond .ne 6, 3) := by decide +kernel
theorem dX6_mergeField_23 : decode cX6_mergeField 23 = .ok (.ldc 59, 2) := by decide +kernel
theorem dX6_mergeField_25 : decode cX6_mergeField 25 = .ok (.ireturn, 1) := by decide +kernel
theorem dX6_mergeField_26 : decode cX6_mergeField 26 = .ok (.aload 4, 2) := by decide +kernel
theorem dX6_mergeField_28 : decode cX6_mergeField 28 = .ok (.invokevirtual 60, 3) := by decide +kernel
theorem dX6_mergeField_31 : decode cX6_mergeField 31 = .ok (.iload_n 2, 1) := by decide +kernel
theorem dX6_mergeField_32 : decode cX6_mergeField 32 = .ok (.invokestatic 71, 3) := by decide +kernel
theorem dX6_mergeField_35 : decode cX6_mergeField 35 = .ok (.ifCond .eq 15, 3) := by decide +kernel
theorem dX6_mergeField_38 : decode cX6_mergeField 38 = .ok (.aload 4, 2) := by decide +kernel
theorem dX6_mergeField_40 : decode cX6_mergeField 40 = .ok (.invokevirtual 60, 3) := by decide +kernel
theorem dX6_mergeField_43 : decode cX6_mergeField 43 = .ok (.iload_n 3, 1) := by decide +kernel
theorem dX6_mergeField_44 : decode cX6_mergeField 44 = .ok (.invokestatic 71, 3) := by decide +kernel
theorem dX6_mergeField_47 : decode cX6_mergeField 47 = .ok (.ifCond .ne 6, 3) := by decide +kernel
theorem dX6_mergeField_50 : decode cX6_mergeField 50 = .ok (.ldc 81, 2) := by decide +kernel
theorem dX6_mergeField_52 : decode cX6_mergeField 52 = .ok (.ireturn, 1) := by decide +kernel
theorem dX6_mergeField_53 : decode cX6_mergeField 53 = .ok (.iload_n 2, 1) := by decide +kernel
theorem dX6_mergeField_54 : decode cX6_mergeField 54 = .ok (.iload_n 3, 1) := by decide +kernel
theorem dX6_mergeField_55 : decode cX6_mergeField 55 = .ok (.if_icmp .ne 6, 3) := by decide +kernel
theorem dX6_mergeField_58 : decode cX6_mergeField 58 = .ok (.ldc 28, 2) := by decide +kernel
theorem dX6_mergeField_60 : decode cX6_mergeField 60 = .ok (.ireturn, 1) := by decide +kernel
theorem dX6_mergeField_61 : decode cX6_mergeField 61 = .ok (.aload 4, 2) := by decide +kernel
theorem dX6_mergeField_63 : decode cX6_mergeField 63 = .ok (.iconst 4, 1) := by decide +kernel
theorem dX6_mergeField_64 : decode cX6_mergeField 64 = .ok (.iload_n 2, 1) := by decide +kernel
theorem dX6_mergeField_65 : decode cX6_mergeField 65 = .ok (.iload_n 3, 1) := by decide +kernel
theorem dX6_mergeField_66 : decode cX6_mergeField 66 = .ok (.invokevirtual 77, 3) := by decide +kernel
theorem dX6_mergeField_69 : decode cX6_mergeField 69 = .ok (.ireturn, 1) := by decide +kernel
set_option maxRecDepth 20000 in
theorem ggX6_activate_X6_historyOf : GoodIn wsX6_activate wsX6_historyOf := goodIn_r _ [7, 8, 9, 26, 27, 28, 29, 30] (by decide +kernel) (by decide +kernel)
set_option maxRecDepth 20000 in
theorem gX6_activate_X6_historyOf : GoodIn wsX6_activate (wsV RX6 37 RX6 yX6_historyOf wsX6_historyOf) := goodIn_app (goodIn_of _ (by decide +kernel)) ggX6_activate_X6_historyOf
set_option maxRecDepth 20000 in
theorem ggX6_activate_X1_activateStaged : GoodIn wsX6_activate wsX1_activateStaged := goodIn_r _ [14, 15, 16, 17, 18, 19, 13, 20, 21, 22, 23, 24, 25] (by decide +kernel) (by decide +kernel)
set_option maxRecDepth 20000 in
theorem gX6_activate_X1_activateStaged : GoodIn wsX6_activate (wsV RX6 84 RX1 yX1_activateStaged wsX1_activateStaged) := goodIn_app (goodIn_of _ (by decide +kernel)) ggX6_activate_X1_activateStaged
theorem dX6_activate_0 : decode cX6_activate 0 = .ok (.aload_n 0, 1) := by decide +kernel
theorem dX6_activate_1 : decode cX6_activate 1 = .ok (.iload_n 1, 1) := by decide +kernel
theorem dX6_activate_2 : decode cX6_activate 2 = .ok (.invokevirtual 37, 3) := by decide +kernel
theorem dX6_activate_5 : decode cX6_activate 5 = .ok (.astore_n 2, 1) := by decide +kernel
theorem dX6_activate_6 : decode cX6_activate 6 = .ok (.aload_n 2, 1) := by decide +kernel
theorem dX6_activate_7 : decode cX6_activate 7 = .ok (.ifnonnull 6, 3) := by decide +kernel
theorem dX6_activate_10 : decode cX6_activate 10 = .ok (.ldc 41, 2) := by decide +kernel
theorem dX6_activate_12 : decode cX6_activate 12 = .ok (.ireturn, 1) := by decide +kernel
theorem dX6_activate_13 : decode cX6_activate 13 = .ok (.aload_n 2, 1) := by decide +kernel
theorem dX6_activate_14 : decode cX6_activate 14 = .ok (.getfield 50, 3) := by decide +kernel
theorem dX6_activate_17 : decode cX6_activate 17 = .ok (.ifCond .ne 6, 3) := by decide +kernel
theorem dX6_activate_20 : decode cX6_activate 20 = .ok (.ldc 59, 2) := by decide +kernel
theorem dX6_activate_22 : decode cX6_activate 22 = .ok (.ireturn, 1) := by decide +kernel
theorem dX6_activate_23 : decode cX6_activate 23 = .ok (.aload_n 2, 1) := by decide +kernel
theorem dX6_activate_24 : decode cX6_activate 24 = .ok (.invokevirtual 84, 3) := by decide +kernel
theorem dX6_activate_27 : decode cX6_activate 27 = .ok (.ireturn, 1) := by decide +kernel
set_option maxRecDepth 20000 in
theorem ggX6_discard_X6_historyOf : GoodIn wsX6_discard wsX6_historyOf := goodIn_r _ [7, 8, 9, 27, 28, 29, 30, 31] (by decide +kernel) (by decide +kernel)
set_option maxRecDepth 20000 in
theorem gX6_discard_X6_historyOf : GoodIn wsX6_discard (wsV RX6 37 RX6 yX6_historyOf wsX6_historyOf) := goodIn_app (goodIn_of _ (by decide +kernel)) ggX6_discard_X6_historyOf
set_option maxRecDepth 20000 in
theorem ggX6_discard_X1_discardStaged : GoodIn wsX6_discard wsX1_discardStaged := goodIn_r _ [14, 15, 16, 17, 18, 19, 20, 13, 21, 22, 23, 24, 25, 26, 32, 33] (by decide +kernel) (by decide +kernel)
set_option maxRecDepth 20000 in
theorem gX6_discard_X1_discardStaged : GoodIn wsX6_discard (wsV RX6 87 RX1 yX1_discardStaged wsX1_discardStaged) := goodIn_app (goodIn_of _ (by decide +kernel)) ggX6_discard_X1_discardStaged
theorem dX6_discard_0 : decode cX6_discard 0 = .ok (.aload_n 0, 1) := by decide +kernel
theorem dX6_discard_1 : decode cX6_discard 1 = .ok (.iload_n 1, 1) := by decide +kernel
theorem dX6_discard_2 : decode cX6_discard 2 = .ok (.invokevirtual 37, 3) := by decide +kernel
theorem dX6_discard_5 : decode cX6_discard 5 = .ok (.astore_n 2, 1) := by decide +kernel
theorem dX6_discard_6 : decode cX6_discard 6 = .ok (.aload_n 2, 1) := by decide +kernel
theorem dX6_discard_7 : decode cX6_discard 7 = .ok (.ifnonnull 6, 3) := by decide +kernel
theorem dX6_discard_10 : decode cX6_discard 10 = .ok (.ldc 41, 2) := by decide +kernel
theorem dX6_discard_12 : decode cX6_discard 12 = .ok (.ireturn, 1) := by decide +kernel
theorem dX6_discard_13 : decode cX6_discard 13 = .ok (.aload_n 2, 1) := by decide +kernel
theorem dX6_discard_14 : decode cX6_discard 14 = .ok (.getfield 50, 3) := by decide +kernel
theorem dX6_discard_17 : decode cX6_discard 17 = .ok (.ifCond .ne 6, 3) := by decide +kernel
theorem dX6_discard_20 : decode cX6_discard 20 = .ok (.ldc 59, 2) := by decide +kernel
theorem dX6_discard_22 : decode cX6_discard 22 = .ok (.ireturn, 1) := by decide +kernel
theorem dX6_discard_23 : decode cX6_discard 23 = .ok (.aload_n 2, 1) := by decide +kernel
theorem dX6_discard_24 : decode cX6_discard 24 = .ok (.invokevirtual 87, 3) := by decide +kernel
theorem dX6_discard_27 : decode cX6_discard 27 = .ok (.ireturn, 1) := by decide +kernel
set_option maxRecDepth 20000 in
theorem ggX6_rollback_X6_historyOf : GoodIn wsX6_rollback wsX6_historyOf := goodIn_r _ [8, 9, 10, 48, 49, 50, 51, 52] (by decide +kernel) (by decide +kernel)
set_option maxRecDepth 20000 in
theorem gX6_rollback_X6_historyOf : GoodIn wsX6_rollback (wsV RX6 37 RX6 yX6_historyOf wsX6_historyOf) := goodIn_app (goodIn_of _ (by decide +kernel)) ggX6_rollback_X6_historyOf
set_option maxRecDepth 20000 in
theorem ggX6_rollback_X6_countFrames : GoodIn wsX6_rollback wsX6_countFrames := goodIn_r _ [14, 15, 16, 17, 18, 19, 20, 21, 22, 48, 49, 50, 51, 52, 53, 54, 55, 56, 57, 43, 44, 45, 46, 47] (by decide +kernel) (by decide +kernel)
set_option maxRecDepth 20000 in
theorem gX6_rollback_X6_countFrames : GoodIn wsX6_rollback (wsV RX6 90 RX6 yX6_countFrames wsX6_countFrames) := goodIn_app (goodIn_of _ (by decide +kernel)) ggX6_rollback_X6_countFrames
set_option maxRecDepth 20000 in
theorem ggX6_rollback_X6_rollBackObjects : GoodIn wsX6_rollback wsX6_rollBackObjects := goodIn_r _ [26, 27, 28, 29, 30, 31, 32, 33, 34, 35, 48, 49, 50, 51, 52, 58, 59, 60, 61, 43, 44, 45, 46, 47] (by decide +kernel) (by decide +kernel)
set_option maxRecDepth 20000 in
theorem gX6_rollback_X6_rollBackObjects : GoodIn wsX6_rollback (wsV RX6 94 RX6 yX6_rollBackObjects wsX6_rollBackObjects) := goodIn_app (goodIn_of _ (by decide +kernel)) ggX6_rollback_X6_rollBackObjects
set_option maxRecDepth 20000 in
theorem ggX6_rollback_X1_removeCurrent : GoodIn wsX6_rollback wsX1_removeCurrent := goodIn_r _ [40, 41, 42, 43, 44, 45, 46, 47] (by decide +kernel) (by decide +kernel)
set_option maxRecDepth 20000 in
theorem gX6_rollback_X1_removeCurrent : GoodIn wsX6_rollback (wsV RX6 97 RX1 yX1_removeCurrent wsX1_removeCurrent) := goodIn_app (goodIn_of _ (by decide +kernel)) ggX6_rollback_X1_removeCurrent
theorem dX6_rollback_0 : decode cX6_rollback 0 = .ok (.aload_n 0, 1) := by decide +kernel
theorem dX6_rollback_1 : decode cX6_rollback 1 = .ok (.iload_n 1, 1) := by decide +kernel
theorem dX6_rollback_2 : decode cX6_rollback 2 = .ok (.invokevirtual 37, 3) := by decide +kernel
theorem dX6_rollback_5 : decode cX6_rollback 5 = .ok (.astore_n 2, 1) := by decide +kernel
theorem dX6_rollback_6 : decode cX6_rollback 6 = .ok (.aload_n 2, 1) := by decide +kernel
theorem dX6_rollback_7 : decode cX6_rollback 7 = .ok (.ifnonnull 6, 3) := by decide +kernel
theorem dX6_rollback_10 : decode cX6_rollback 10 = .ok (.ldc 41, 2) := by decide +kernel
theorem dX6_rollback_12 : decode cX6_rollback 12 = .ok (.ireturn, 1) := by decide +kernel
theorem dX6_rollback_13 : decode cX6_rollback 13 = .ok (.aload_n 2, 1) := by decide +kernel
theorem dX6_rollback_14 : decode cX6_rollback 14 = .ok (.getfield 42, 3) := by decide +kernel
theorem dX6_rollback_17 : decode cX6_rollback 17 = .ok (.istore_n 3, 1) := by decide +kernel
theorem dX6_rollback_18 : decode cX6_rollback 18 = .ok (.iload_n 3, 1) := by decide +kernel
theorem dX6_rollback_19 : decode cX6_rollback 19 = .ok (.ifCond .ne 6, 3) := by decide +kernel
theorem dX6_rollback_22 : decode cX6_rollback 22 = .ok (.ldc 45, 2) := by decide +kernel
theorem dX6_rollback_24 : decode cX6_rollback 24 = .ok (.ireturn, 1) := by decide +kernel
theorem dX6_rollback_25 : decode cX6_rollback 25 = .ok (.aload_n 0, 1) := by decide +kernel
theorem dX6_rollback_26 : decode cX6_rollback 26 = .ok (.iload_n 1, 1) := by decide +kernel
theorem dX6_rollback_27 : decode cX6_rollback 27 = .ok (.iload_n 3, 1) := by decide +kernel
theorem dX6_rollback_28 : decode cX6_rollback 28 = .ok (.iload_n 3, 1) := by decide +kernel
theorem dX6_rollback_29 : decode cX6_rollback 29 = .ok (.invokevirtual 90, 3) := by decide +kernel
theorem dX6_rollback_32 : decode cX6_rollback 32 = .ok (.ifCond .le 6, 3) := by decide +kernel
theorem dX6_rollback_35 : decode cX6_rollback 35 = .ok (.ldc 93, 2) := by decide +kernel
theorem dX6_rollback_37 : decode cX6_rollback 37 = .ok (.ireturn, 1) := by decide +kernel
theorem dX6_rollback_38 : decode cX6_rollback 38 = .ok (.aload_n 0, 1) := by decide +kernel
theorem dX6_rollback_39 : decode cX6_rollback 39 = .ok (.iload_n 1, 1) := by decide +kernel
theorem dX6_rollback_40 : decode cX6_rollback 40 = .ok (.iload_n 3, 1) := by decide +kernel
theorem dX6_rollback_41 : decode cX6_rollback 41 = .ok (.invokevirtual 94, 3) := by decide +kernel
theorem dX6_rollback_44 : decode cX6_rollback 44 = .ok (.aload_n 2, 1) := by decide +kernel
theorem dX6_rollback_45 : decode cX6_rollback 45 = .ok (.invokevirtual 97, 3) := by decide +kernel
theorem dX6_rollback_48 : decode cX6_rollback 48 = .ok (.ireturn, 1) := by decide +kernel
set_option maxRecDepth 20000 in
theorem ggX6_call_X6_stackOf : GoodIn wsX6_call wsX6_stackOf := goodIn_r _ [7, 8, 34, 35, 36, 37, 38] (by decide +kernel) (by decide +kernel)
set_option maxRecDepth 20000 in
theorem gX6_call_X6_stackOf : GoodIn wsX6_call (wsV RX6 100 RX6 yX6_stackOf wsX6_stackOf) := goodIn_app (goodIn_of _ (by decide +kernel)) ggX6_call_X6_stackOf
set_option maxRecDepth 20000 in
theorem ggX6_call_X6_historyOf : GoodIn wsX6_call wsX6_historyOf := goodIn_r _ [12, 13, 14, 34, 35, 36, 37, 38] (by decide +kernel) (by decide +kernel)
set_option maxRecDepth 20000 in
theorem gX6_call_X6_historyOf : GoodIn wsX6_call (wsV RX6 37 RX6 yX6_historyOf wsX6_historyOf) := goodIn_app (goodIn_of _ (by decide +kernel)) ggX6_call_X6_historyOf
set_option maxRecDepth 20000 in
theorem ggX6_call_X0_push : GoodIn wsX6_call wsX0_push := goodIn_r _ [19, 20, 21, 22, 23, 24, 25, 26, 27, 28, 29, 30, 31, 32, 33, 39, 40, 41, 42, 43, 44, 45, 46, 47, 48] (by decide +kernel) (by decide +kernel)
set_option maxRecDepth 20000 in
theorem gX6_call_X0_push : GoodIn wsX6_call (wsV RX6 105 RX0 yX0_push wsX0_push) := goodIn_app (goodIn_of _ (by decide +kernel)) ggX6_call_X0_push
theorem dX6_call_0 : decode cX6_call 0 = .ok (.aload_n 0, 1) := by decide +kernel
theorem dX6_call_1 : decode cX6_call 1 = .ok (.iload_n 1, 1) := by decide +kernel
theorem dX6_call_2 : decode cX6_call 2 = .ok (.invokevirtual 100, 3) := by decide +kernel
theorem dX6_call_5 : decode cX6_call 5 = .ok (.astore_n 3, 1) := by decide +kernel
theorem dX6_call_6 : decode cX6_call 6 = .ok (.aload_n 3, 1) := by decide +kernel
theorem dX6_call_7 : decode cX6_call 7 = .ok (.ifnonnull 6, 3) := by decide +kernel
theorem dX6_call_10 : decode cX6_call 10 = .ok (.ldc 104, 2) := by decide +kernel
theorem dX6_call_12 : decode cX6_call 12 = .ok (.ireturn, 1) := by decide +kernel
theorem dX6_call_13 : decode cX6_call 13 = .ok (.aload_n 0, 1) := by decide +kernel
theorem dX6_call_14 : decode cX6_call 14 = .ok (.iload_n 2, 1) := by decide +kernel
theorem dX6_call_15 : decode cX6_call 15 = .ok (.invokevirtual 37, 3) := by decide +kernel
theorem dX6_call_18 : decode cX6_call 18 = .ok (.astore 4, 2) := by decide +kernel
theorem dX6_call_20 : decode cX6_call 20 = .ok (.aload 4, 2) := by decide +kernel
theorem dX6_call_22 : decode cX6_call 22 = .ok (.ifnonnull 6, 3) := by decide +kernel
theorem dX6_call_25 : decode cX6_call 25 = .ok (.ldc 41, 2) := by decide +kernel
theorem dX6_call_27 : decode cX6_call 27 = .ok (.ireturn, 1) := by decide +kernel
theorem dX6_call_28 : decode cX6_call 28 = .ok (.aload_n 3, 1) := by decide +kernel
theorem dX6_call_29 : decode cX6_call 29 = .ok (.aload 4, 2) := by decide +kernel
theorem dX6_call_31 : decode cX6_call 31 = .ok (.invokevirtual 105, 3) := by decide +kernel
theorem dX6_call_34 : decode cX6_call 34 = .ok (.ireturn, 1) := by decide +kernel
set_option maxRecDepth 20000 in
theorem ggX6_finish_X6_stackOf : GoodIn wsX6_finish wsX6_stackOf := goodIn_r _ [6, 7, 16, 17, 18, 19, 20] (by decide +kernel) (by decide +kernel)
set_option maxRecDepth 20000 in
theorem gX6_finish_X6_stackOf : GoodIn wsX6_finish (wsV RX6 100 RX6 yX6_stackOf wsX6_stackOf) := goodIn_app (goodIn_of _ (by decide +kernel)) ggX6_finish_X6_stackOf
set_option maxRecDepth 20000 in
theorem ggX6_finish_X0_pop : GoodIn wsX6_finish wsX0_pop := goodIn_r _ [12, 13, 14, 15, 21, 22] (by decide +kernel) (by decide +kernel)
set_option maxRecDepth 20000 in
theorem gX6_finish_X0_pop : GoodIn wsX6_finish (wsV RX6 109 RX0 yX0_pop wsX0_pop) := goodIn_app (goodIn_of _ (by decide +kernel)) ggX6_finish_X0_pop
theorem dX6_finish_0 : decode cX6_finish 0 = .ok (.aload_n 0, 1) := by decide +kernel
theorem dX6_finish_1 : decode cX6_finish 1 = .ok (.iload_n 1, 1) := by decide +kernel
theorem dX6_finish_2 : decode cX6_finish 2 = .ok (.invokevirtual 100, 3) := by decide +kernel
theorem dX6_finish_5 : decode cX6_finish 5 = .ok (.astore_n 2, 1) := by decide +kernel
theorem dX6_finish_6 : decode cX6_finish 6 = .ok (.aload_n 2, 1) := by decide +kernel
theorem dX6_finish_7 : decode cX6_finish 7 = .ok (.ifnonnull 6, 3) := by decide +kernel
theorem dX6_finish_10 : decode cX6_finish 10 = .ok (.ldc 104, 2) := by decide +kernel
theorem dX6_finish_12 : decode cX6_finish 12 = .ok (.ireturn, 1) := by decide +kernel
theorem dX6_finish_13 : decode cX6_finish 13 = .ok (.aload_n 2, 1) := by decide +kernel
theorem dX6_finish_14 : decode cX6_finish 14 = .ok (.invokevirtual 109, 3) := by decide +kernel
theorem dX6_finish_17 : decode cX6_finish 17 = .ok (.ireturn, 1) := by decide +kernel
set_option maxRecDepth 20000 in
theorem ggX6_depth_X6_stackOf : GoodIn wsX6_depth wsX6_stackOf := goodIn_r _ [6, 7, 10, 11, 12, 13, 14] (by decide +kernel) (by decide +kernel)
set_option maxRecDepth 20000 in
theorem gX6_depth_X6_stackOf : GoodIn wsX6_depth (wsV RX6 100 RX6 yX6_stackOf wsX6_stackOf) := goodIn_app (goodIn_of _ (by decide +kernel)) ggX6_depth_X6_stackOf
theorem dX6_depth_0 : decode cX6_depth 0 = .ok (.aload_n 0, 1) := by decide +kernel
theorem dX6_depth_1 : decode cX6_depth 1 = .ok (.iload_n 1, 1) := by decide +kernel
theorem dX6_depth_2 : decode cX6_depth 2 = .ok (.invokevirtual 100, 3) := by decide +kernel
theorem dX6_depth_5 : decode cX6_depth 5 = .ok (.astore_n 2, 1) := by decide +kernel
theorem dX6_depth_6 : decode cX6_depth 6 = .ok (.aload_n 2, 1) := by decide +kernel
theorem dX6_depth_7 : decode cX6_depth 7 = .ok (.ifnonnull 6, 3) := by decide +kernel
theorem dX6_depth_10 : decode cX6_depth 10 = .ok (.ldc 104, 2) := by decide +kernel
theorem dX6_depth_12 : decode cX6_depth 12 = .ok (.ireturn, 1) := by decide +kernel
theorem dX6_depth_13 : decode cX6_depth 13 = .ok (.aload_n 2, 1) := by decide +kernel
theorem dX6_depth_14 : decode cX6_depth 14 = .ok (.getfield 112, 3) := by decide +kernel
theorem dX6_depth_17 : decode cX6_depth 17 = .ok (.ireturn, 1) := by decide +kernel
set_option maxRecDepth 20000 in
theorem ggX6_frameClass_X6_stackOf : GoodIn wsX6_frameClass wsX6_stackOf := goodIn_r _ [7, 8, 24, 25, 26, 27, 28] (by decide +kernel) (by decide +kernel)
set_option maxRecDepth 20000 in
theorem gX6_frameClass_X6_stackOf : GoodIn wsX6_frameClass (wsV RX6 100 RX6 yX6_stackOf wsX6_stackOf) := goodIn_app (goodIn_of _ (by decide +kernel)) ggX6_frameClass_X6_stackOf
set_option maxRecDepth 20000 in
theorem ggX6_frameClass_X0_frameAt : GoodIn wsX6_frameClass wsX0_frameAt := goodIn_r _ [13, 14, 15, 29, 30] (by decide +kernel) (by decide +kernel)
set_option maxRecDepth 20000 in
theorem gX6_frameClass_X0_frameAt : GoodIn wsX6_frameClass (wsV RX6 115 RX0 yX0_frameAt wsX0_frameAt) := goodIn_app (goodIn_of _ (by decide +kernel)) ggX6_frameClass_X0_frameAt
theorem dX6_frameClass_0 : decode cX6_frameClass 0 = .ok (.aload_n 0, 1) := by decide +kernel
theorem dX6_frameClass_1 : decode cX6_frameClass 1 = .ok (.iload_n 1, 1) := by decide +kernel
theorem dX6_frameClass_2 : decode cX6_frameClass 2 = .ok (.invokevirtual 100, 3) := by decide +kernel
theorem dX6_frameClass_5 : decode cX6_frameClass 5 = .ok (.astore_n 3, 1) := by decide +kernel
theorem dX6_frameClass_6 : decode cX6_frameClass 6 = .ok (.aload_n 3, 1) := by decide +kernel
theorem dX6_frameClass_7 : decode cX6_frameClass 7 = .ok (.ifnonnull 6, 3) := by decide +kernel
theorem dX6_frameClass_10 : decode cX6_frameClass 10 = .ok (.ldc 104, 2) := by decide +kernel
theorem dX6_frameClass_12 : decode cX6_frameClass 12 = .ok (.ireturn, 1) := by decide +kernel
theorem dX6_frameClass_13 : decode cX6_frameClass 13 = .ok (.aload_n 3, 1) := by decide +kernel
theorem dX6_frameClass_14 : decode cX6_frameClass 14 = .ok (.iload_n 2, 1) := by decide +kernel
theorem dX6_frameClass_15 : decode cX6_frameClass 15 = .ok (.invokevirtual 115, 3) := by decide +kernel
theorem dX6_frameClass_18 : decode cX6_frameClass 18 = .ok (.astore 4, 2) := by decide +kernel
theorem dX6_frameClass_20 : decode cX6_frameClass 20 = .ok (.aload 4, 2) := by decide +kernel
theorem dX6_frameClass_22 : decode cX6_frameClass 22 = .ok (.ifnonnull 6, 3) := by decide +kernel
theorem dX6_frameClass_25 : decode cX6_frameClass 25 = .ok (.ldc 119, 2) := by decide +kernel
theorem dX6_frameClass_27 : decode cX6_frameClass 27 = .ok (.ireturn, 1) := by decide +kernel
theorem dX6_frameClass_28 : decode cX6_frameClass 28 = .ok (.aload 4, 2) := by decide +kernel
theorem dX6_frameClass_30 : decode cX6_frameClass 30 = .ok (.getfield 120, 3) := by decide +kernel
theorem dX6_frameClass_33 : decode cX6_frameClass 33 = .ok (.getfield 126, 3) := by decide +kernel
theorem dX6_frameClass_36 : decode cX6_frameClass 36 = .ok (.ireturn, 1) := by decide +kernel
set_option maxRecDepth 20000 in
theorem ggX6_frameVersion_X6_stackOf : GoodIn wsX6_frameVersion wsX6_stackOf := goodIn_r _ [7, 8, 19, 20, 21, 22, 23] (by decide +kernel) (by decide +kernel)
set_option maxRecDepth 20000 in
theorem gX6_frameVersion_X6_stackOf : GoodIn wsX6_frameVersion (wsV RX6 100 RX6 yX6_stackOf wsX6_stackOf) := goodIn_app (goodIn_of _ (by decide +kernel)) ggX6_frameVersion_X6_stackOf
set_option maxRecDepth 20000 in
theorem ggX6_frameVersion_X0_frameAt : GoodIn wsX6_frameVersion wsX0_frameAt := goodIn_r _ [13, 14, 15, 24, 25] (by decide +kernel) (by decide +kernel)
set_option maxRecDepth 20000 in
theorem gX6_frameVersion_X0_frameAt : GoodIn wsX6_frameVersion (wsV RX6 115 RX0 yX0_frameAt wsX0_frameAt) := goodIn_app (goodIn_of _ (by decide +kernel)) ggX6_frameVersion_X0_frameAt
theorem dX6_frameVersion_0 : decode cX6_frameVersion 0 = .ok (.aload_n 0, 1) := by decide +kernel
theorem dX6_frameVersion_1 : decode cX6_frameVersion 1 = .ok (.iload_n 1, 1) := by decide +kernel
theorem dX6_frameVersion_2 : decode cX6_frameVersion 2 = .ok (.invokevirtual 100, 3) := by decide +kernel
theorem dX6_frameVersion_5 : decode cX6_frameVersion 5 = .ok (.astore_n 3, 1) := by decide +kernel
theorem dX6_frameVersion_6 : decode cX6_frameVersion 6 = .ok (.aload_n 3, 1) := by decide +kernel
theorem dX6_frameVersion_7 : decode cX6_frameVersion 7 = .ok (.ifnonnull 6, 3) := by decide +kernel
theorem dX6_frameVersion_10 : decode cX6_frameVersion 10 = .ok (.ldc 104, 2) := by decide +kernel
theorem dX6_frameVersion_12 : decode cX6_frameVersion 12 = .ok (.ireturn, 1) := by decide +kernel
theorem dX6_frameVersion_13 : decode cX6_frameVersion 13 = .ok (.aload_n 3, 1) := by decide +kernel
theorem dX6_frameVersion_14 : decode cX6_frameVersion 14 = .ok (.iload_n 2, 1) := by decide +kernel
theorem dX6_frameVersion_15 : decode cX6_frameVersion 15 = .ok (.invokevirtual 115, 3) := by decide +kernel
theorem dX6_frameVersion_18 : decode cX6_frameVersion 18 = .ok (.astore 4, 2) := by decide +kernel
theorem dX6_frameVersion_20 : decode cX6_frameVersion 20 = .ok (.aload 4, 2) := by decide +kernel
theorem dX6_frameVersion_22 : decode cX6_frameVersion 22 = .ok (.ifnonnull 6, 3) := by decide +kernel
theorem dX6_frameVersion_25 : decode cX6_frameVersion 25 = .ok (.ldc 119, 2) := by decide +kernel
theorem dX6_frameVersion_27 : decode cX6_frameVersion 27 = .ok (.ireturn, 1) := by decide +kernel
theorem dX6_frameVersion_28 : decode cX6_frameVersion 28 = .ok (.aload 4, 2) := by decide +kernel
theorem dX6_frameVersion_30 : decode cX6_frameVersion 30 = .ok (.getfield 129, 3) := by decide +kernel
theorem dX6_frameVersion_33 : decode cX6_frameVersion 33 = .ok (.ireturn, 1) := by decide +kernel
set_option maxRecDepth 20000 in
theorem ggX6_oldFrames_X6_historyOf : GoodIn wsX6_oldFrames wsX6_historyOf := goodIn_r _ [6, 7, 8, 26, 27, 28, 29, 30] (by decide +kernel) (by decide +kernel)
set_option maxRecDepth 20000 in
theorem gX6_oldFrames_X6_historyOf : GoodIn wsX6_oldFrames (wsV RX6 37 RX6 yX6_historyOf wsX6_historyOf) := goodIn_app (goodIn_of _ (by decide +kernel)) ggX6_oldFrames_X6_historyOf
set_option maxRecDepth 20000 in
theorem ggX6_oldFrames_X6_countFrames : GoodIn wsX6_oldFrames wsX6_countFrames := goodIn_r _ [12, 13, 14, 15, 16, 17, 18, 19, 20, 26, 27, 28, 29, 30, 31, 32, 33, 34, 35, 21, 22, 23, 24, 25] (by decide +kernel) (by decide +kernel)
set_option maxRecDepth 20000 in
theorem gX6_oldFrames_X6_countFrames : GoodIn wsX6_oldFrames (wsV RX6 90 RX6 yX6_countFrames wsX6_countFrames) := goodIn_app (goodIn_of _ (by decide +kernel)) ggX6_oldFrames_X6_countFrames
theorem dX6_oldFrames_0 : decode cX6_oldFrames 0 = .ok (.aload_n 0, 1) := by decide +kernel
theorem dX6_oldFrames_1 : decode cX6_oldFrames 1 = .ok (.iload_n 1, 1) := by decide +kernel
theorem dX6_oldFrames_2 : decode cX6_oldFrames 2 = .ok (.invokevirtual 37, 3) := by decide +kernel
theorem dX6_oldFrames_5 : decode cX6_oldFrames 5 = .ok (.astore_n 2, 1) := by decide +kernel
theorem dX6_oldFrames_6 : decode cX6_oldFrames 6 = .ok (.aload_n 2, 1) := by decide +kernel
theorem dX6_oldFrames_7 : decode cX6_oldFrames 7 = .ok (.ifnonnull 6, 3) := by decide +kernel
theorem dX6_oldFrames_10 : decode cX6_oldFrames 10 = .ok (.ldc 41, 2) := by decide +kernel
theorem dX6_oldFrames_12 : decode cX6_oldFrames 12 = .ok (.ireturn, 1) := by decide +kernel
theorem dX6_oldFrames_13 : decode cX6_oldFrames 13 = .ok (.aload_n 0, 1) := by decide +kernel
theorem dX6_oldFrames_14 : decode cX6_oldFrames 14 = .ok (.iload_n 1, 1) := by decide +kernel
theorem dX6_oldFrames_15 : decode cX6_oldFrames 15 = .ok (.iconst 0, 1) := by decide +kernel
theorem dX6_oldFrames_16 : decode cX6_oldFrames 16 = .ok (.aload_n 2, 1) := by decide +kernel
theorem dX6_oldFrames_17 : decode cX6_oldFrames 17 = .ok (.getfield 42, 3) := by decide +kernel
theorem dX6_oldFrames_20 : decode cX6_oldFrames 20 = .ok (.iconst 1, 1) := by decide +kernel
theorem dX6_oldFrames_21 : decode cX6_oldFrames 21 = .ok (.isub, 1) := by decide +kernel
theorem dX6_oldFrames_22 : decode cX6_oldFrames 22 = .ok (.invokevirtual 90, 3) := by decide +kernel
theorem dX6_oldFrames_25 : decode cX6_oldFrames 25 = .ok (.ireturn, 1) := by decide +kernel
set_option maxRecDepth 20000 in
theorem ggX6_create_X6_stackOf : GoodIn wsX6_create wsX6_stackOf := goodIn_r _ [13, 14, 44, 45, 46, 47, 48] (by decide +kernel) (by decide +kernel)
set_option maxRecDepth 20000 in
theorem gX6_create_X6_stackOf : GoodIn wsX6_create (wsV RX6 100 RX6 yX6_stackOf wsX6_stackOf) := goodIn_app (goodIn_of _ (by decide +kernel)) ggX6_create_X6_stackOf
set_option maxRecDepth 20000 in
theorem ggX6_create_X0_top : GoodIn wsX6_create wsX0_top := goodIn_r _ [19, 20, 21, 22, 23, 18, 24, 25, 56, 57] (by decide +kernel) (by decide +kernel)
set_option maxRecDepth 20000 in
theorem gX6_create_X0_top : GoodIn wsX6_create (wsV RX6 132 RX0 yX0_top wsX0_top) := goodIn_app (goodIn_of _ (by decide +kernel)) ggX6_create_X0_top
set_option maxRecDepth 20000 in
theorem ggX6_create_X5_init : GoodIn wsX6_create wsX5_init := goodIn_r _ [28, 29, 30, 31, 32, 33, 34, 35, 36, 37, 49, 50, 51, 52] (by decide +kernel) (by decide +kernel)
set_option maxRecDepth 20000 in
theorem gX6_create_X5_init : GoodIn wsX6_create (wsX5_init) := ggX6_create_X5_init
set_option maxRecDepth 20000 in
theorem ggX6_create_X3_pin : GoodIn wsX6_create wsX3_pin := goodIn_r _ [42, 43, 53, 54, 55] (by decide +kernel) (by decide +kernel)
set_option maxRecDepth 20000 in
theorem gX6_create_X3_pin : GoodIn wsX6_create (wsV RX6 142 RX3 yX3_pin wsX3_pin) := goodIn_app (goodIn_of _ (by decide +kernel)) ggX6_create_X3_pin
theorem dX6_create_0 : decode cX6_create 0 = .ok (.aload_n 0, 1) := by decide +kernel
theorem dX6_create_1 : decode cX6_create 1 = .ok (.iload_n 1, 1) := by decide +kernel
theorem dX6_create_2 : decode cX6_create 2 = .ok (.invokevirtual 100, 3) := by decide +kernel
theorem dX6_create_5 : decode cX6_create 5 = .ok (.astore_n 2, 1) := by decide +kernel
theorem dX6_create_6 : decode cX6_create 6 = .ok (.aload_n 2, 1) := by decide +kernel
theorem dX6_create_7 : decode cX6_create 7 = .ok (.ifnonnull 6, 3) := by decide +kernel
theorem dX6_create_10 : decode cX6_create 10 = .ok (.ldc 104, 2) := by decide +kernel
theorem dX6_create_12 : decode cX6_create 12 = .ok (.ireturn, 1) := by decide +kernel
theorem dX6_create_13 : decode cX6_create 13 = .ok (.aload_n 2, 1) := by decide +kernel
theorem dX6_create_14 : decode cX6_create 14 = .ok (.invokevirtual 132, 3) := by decide +kernel
theorem dX6_create_17 : decode cX6_create 17 = .ok (.astore_n 3, 1) := by decide +kernel
theorem dX6_create_18 : decode cX6_create 18 = .ok (.aload_n 3, 1) := by decide +kernel
theorem dX6_create_19 : decode cX6_create 19 = .ok (.ifnonnull 6, 3) := by decide +kernel
theorem dX6_create_22 : decode cX6_create 22 = .ok (.ldc 119, 2) := by decide +kernel
theorem dX6_create_24 : decode cX6_create 24 = .ok (.ireturn, 1) := by decide +kernel
theorem dX6_create_25 : decode cX6_create 25 = .ok (.aload_n 0, 1) := by decide +kernel
theorem dX6_create_26 : decode cX6_create 26 = .ok (.getfield 136, 3) := by decide +kernel
theorem dX6_create_29 : decode cX6_create 29 = .ok (.bipush 24, 2) := by decide +kernel
theorem dX6_create_31 : decode cX6_create 31 = .ok (.if_icmp .lt 6, 3) := by decide +kernel
theorem dX6_create_34 : decode cX6_create 34 = .ok (.ldc 33, 2) := by decide +kernel
theorem dX6_create_36 : decode cX6_create 36 = .ok (.ireturn, 1) := by decide +kernel
theorem dX6_create_37 : decode cX6_create 37 = .ok (.aload_n 0, 1) := by decide +kernel
theorem dX6_create_38 : decode cX6_create 38 = .ok (.getfield 136, 3) := by decide +kernel
theorem dX6_create_41 : decode cX6_create 41 = .ok (.istore 4, 2) := by decide +kernel
theorem dX6_create_43 : decode cX6_create 43 = .ok (.aload_n 0, 1) := by decide +kernel
theorem dX6_create_44 : decode cX6_create 44 = .ok (.getfield 24, 3) := by decide +kernel
theorem dX6_create_47 : decode cX6_create 47 = .ok (.iload 4, 2) := by decide +kernel
theorem dX6_create_49 : decode cX6_create 49 = .ok (.new 22, 3) := by decide +kernel
theorem dX6_create_52 : decode cX6_create 52 = .ok (.dup, 1) := by decide +kernel
theorem dX6_create_53 : decode cX6_create 53 = .ok (.aload_n 3, 1) := by decide +kernel
theorem dX6_create_54 : decode cX6_create 54 = .ok (.getfield 120, 3) := by decide +kernel
theorem dX6_create_57 : decode cX6_create 57 = .ok (.aload_n 3, 1) := by decide +kernel
theorem dX6_create_58 : decode cX6_create 58 = .ok (.getfield 129, 3) := by decide +kernel
theorem dX6_create_61 : decode cX6_create 61 = .ok (.invokespecial 139, 3) := by decide +kernel
theorem dX6_create_64 : decode cX6_create 64 = .ok (.aastore, 1) := by decide +kernel
theorem dX6_create_65 : decode cX6_create 65 = .ok (.aload_n 0, 1) := by decide +kernel
theorem dX6_create_66 : decode cX6_create 66 = .ok (.dup, 1) := by decide +kernel
theorem dX6_create_67 : decode cX6_create 67 = .ok (.getfield 136, 3) := by decide +kernel
theorem dX6_create_70 : decode cX6_create 70 = .ok (.iconst 1, 1) := by decide +kernel
theorem dX6_create_71 : decode cX6_create 71 = .ok (.iadd, 1) := by decide +kernel
theorem dX6_create_72 : decode cX6_create 72 = .ok (.putfield 136, 3) := by decide +kernel
theorem dX6_create_75 : decode cX6_create 75 = .ok (.aload_n 3, 1) := by decide +kernel
theorem dX6_create_76 : decode cX6_create 76 = .ok (.iload 4, 2) := by decide +kernel
theorem dX6_create_78 : decode cX6_create 78 = .ok (.invokevirtual 142, 3) := by decide +kernel
theorem dX6_create_81 : decode cX6_create 81 = .ok (.iload 4, 2) := by decide +kernel
theorem dX6_create_83 : decode cX6_create 83 = .ok (.ireturn, 1) := by decide +kernel
set_option maxRecDepth 20000 in
theorem ggX6_read_X6_access : GoodIn wsX6_read wsX6_access := goodIn_r _ [5, 6, 7, 8, 9, 10, 11, 12, 13, 14, 15, 16, 4, 17, 18, 19, 20, 21, 22, 23, 24, 25, 26, 27, 28, 29, 30, 31, 32, 33, 34, 35, 36, 37, 38, 39, 40, 41, 42, 43, 44, 45, 46, 47, 48, 49, 50, 51, 52, 53, 54, 55, 56, 57, 58, 59, 60, 61, 62, 63, 64, 65, 66, 67, 68, 69, 70, 71, 72, 73, 74, 75, 76, 77, 78, 79, 80, 81, 82, 83, 84, 85, 86, 87, 88, 89, 90, 91, 92, 93, 94, 95, 96, 97, 98, 99, 100, 101, 102, 103, 104, 105, 106, 107, 108, 109, 110, 111, 112, 113, 114, 115, 116, 117, 118, 119, 120, 121, 122, 123, 124, 125, 126, 127, 128, 129, 130, 131, 132] (by decide +kernel) (by decide +kernel)
set_option maxRecDepth 20000 in
theorem gX6_read_X6_access : GoodIn wsX6_read (wsV RX6 146 RX6 yX6_access wsX6_access) := goodIn_app (goodIn_of _ (by decide +kernel)) ggX6_read_X6_access
theorem dX6_read_0 : decode cX6_read 0 = .ok (.aload_n 0, 1) := by decide +kernel
theorem dX6_read_1 : decode cX6_read 1 = .ok (.iload_n 1, 1) := by decide +kernel
theorem dX6_read_2 : decode cX6_read 2 = .ok (.iload_n 2, 1) := by decide +kernel
theorem dX6_read_3 : decode cX6_read 3 = .ok (.iload_n 3, 1) := by decide +kernel
theorem dX6_read_4 : decode cX6_read 4 = .ok (.invokevirtual 146, 3) := by decide +kernel
theorem dX6_read_7 : decode cX6_read 7 = .ok (.ireturn, 1) := by decide +kernel
set_option maxRecDepth 20000 in
theorem ggX6_write_X6_isValue : GoodIn wsX6_write wsX6_isValue := goodIn_r _ [5, 6, 7] (by decide +kernel) (by decide +kernel)
set_option maxRecDepth 20000 in
theorem gX6_write_X6_isValue : GoodIn wsX6_write (va_wsS RX6 67 yX6_isValue wsX6_isValue) := goodIn_app (goodIn_of _ (by decide +kernel)) ggX6_write_X6_isValue
set_option maxRecDepth 20000 in
theorem ggX6_write_X6_access : GoodIn wsX6_write wsX6_access := goodIn_r _ [11, 12, 13, 14, 15, 16, 17, 18, 19, 20, 21, 22, 4, 23, 24, 25, 26, 27, 28, 29, 30, 31, 32, 33, 34, 35, 36, 37, 38, 39, 40, 41, 42, 43, 44, 45, 46, 47, 48, 49, 50, 51, 52, 53, 54, 55, 56, 57, 58, 59, 60, 61, 62, 63, 64, 65, 66, 67, 68, 69, 70, 71, 72, 73, 74, 75, 76, 77, 78, 79, 80, 81, 82, 83, 84, 85, 86, 87, 88, 89, 90, 91, 92, 93, 94, 95, 96, 97, 98, 99, 100, 101, 102, 3, 5, 6, 7, 103, 104, 105, 106, 107, 108, 109, 110, 115, 116, 117, 118, 119, 120, 121, 122, 123, 124, 125, 126, 127, 128, 129, 130, 131, 132, 133, 134, 135, 136, 137, 138] (by decide +kernel) (by decide +kernel)
set_option maxRecDepth 20000 in
theorem gX6_write_X6_access : GoodIn wsX6_write (wsV RX6 146 RX6 yX6_access wsX6_access) := goodIn_app (goodIn_of _ (by decide +kernel)) ggX6_write_X6_access
set_option maxRecDepth 20000 in
theorem ggX6_write_X6_existingObject : GoodIn wsX6_write wsX6_existingObject := goodIn_r _ [39, 40, 41, 127, 128, 129, 130, 131] (by decide +kernel) (by decide +kernel)
set_option maxRecDepth 20000 in
theorem gX6_write_X6_existingObject : GoodIn wsX6_write (wsV RX6 149 RX6 yX6_existingObject wsX6_existingObject) := goodIn_app (goodIn_of _ (by decide +kernel)) ggX6_write_X6_existingObject
set_option maxRecDepth 20000 in
theorem ggX6_write_X5_putValue : GoodIn wsX6_write wsX5_putValue := goodIn_r _ [114, 79, 78, 115, 116, 117, 118] (by decide +kernel) (by decide +kernel)
set_option maxRecDepth 20000 in
theorem gX6_write_X5_putValue : GoodIn wsX6_write (wsV RX6 153 RX5 yX5_putValue wsX5_putValue) := goodIn_app (goodIn_of _ (by decide +kernel)) ggX6_write_X5_putValue
theorem dX6_write_0 : decode cX6_write 0 = .ok (.iload 4, 2) := by decide +kernel
theorem dX6_write_2 : decode cX6_write 2 = .ok (.i2l, 1) := by decide +kernel
theorem dX6_write_3 : decode cX6_write 3 = .ok (.invokestatic 67, 3) := by decide +kernel
theorem dX6_write_6 : decode cX6_write 6 = .ok (.ifCond .ne 6, 3) := by decide +kernel
theorem dX6_write_9 : decode cX6_write 9 = .ok (.ldc 28, 2) := by decide +kernel
theorem dX6_write_11 : decode cX6_write 11 = .ok (.ireturn, 1) := by decide +kernel
theorem dX6_write_12 : decode cX6_write 12 = .ok (.aload_n 0, 1) := by decide +kernel
theorem dX6_write_13 : decode cX6_write 13 = .ok (.iload_n 1, 1) := by decide +kernel
theorem dX6_write_14 : decode cX6_write 14 = .ok (.iload_n 2, 1) := by decide +kernel
theorem dX6_write_15 : decode cX6_write 15 = .ok (.iload_n 3, 1) := by decide +kernel
theorem dX6_write_16 : decode cX6_write 16 = .ok (.invokevirtual 146, 3) := by decide +kernel
theorem dX6_write_19 : decode cX6_write 19 = .ok (.istore 5, 2) := by decide +kernel
theorem dX6_write_21 : decode cX6_write 21 = .ok (.aload_n 0, 1) := by decide +kernel
theorem dX6_write_22 : decode cX6_write 22 = .ok (.iload_n 2, 1) := by decide +kernel
theorem dX6_write_23 : decode cX6_write 23 = .ok (.invokevirtual 149, 3) := by decide +kernel
theorem dX6_write_26 : decode cX6_write 26 = .ok (.astore 6, 2) := by decide +kernel
theorem dX6_write_28 : decode cX6_write 28 = .ok (.iload 5, 2) := by decide +kernel
theorem dX6_write_30 : decode cX6_write 30 = .ok (.i2l, 1) := by decide +kernel
theorem dX6_write_31 : decode cX6_write 31 = .ok (.invokestatic 67, 3) := by decide +kernel
theorem dX6_write_34 : decode cX6_write 34 = .ok (.ifCond .eq 8, 3) := by decide +kernel
theorem dX6_write_37 : decode cX6_write 37 = .ok (.aload 6, 2) := by decide +kernel
theorem dX6_write_39 : decode cX6_write 39 = .ok (.ifnonnull 6, 3) := by decide +kernel
theorem dX6_write_42 : decode cX6_write 42 = .ok (.iload 5, 2) := by decide +kernel
theorem dX6_write_44 : decode cX6_write 44 = .ok (.ireturn, 1) := by decide +kernel
theorem dX6_write_45 : decode cX6_write 45 = .ok (.aload 6, 2) := by decide +kernel
theorem dX6_write_47 : decode cX6_write 47 = .ok (.iload_n 3, 1) := by decide +kernel
theorem dX6_write_48 : decode cX6_write 48 = .ok (.iload 4, 2) := by decide +kernel
theorem dX6_write_50 : decode cX6_write 50 = .ok (.invokevirtual 153, 3) := by decide +kernel
theorem dX6_write_53 : decode cX6_write 53 = .ok (.iload 5, 2) := by decide +kernel
theorem dX6_write_55 : decode cX6_write 55 = .ok (.ireturn, 1) := by decide +kernel
set_option maxRecDepth 20000 in
theorem ggX6_peek_X6_existingObject : GoodIn wsX6_peek wsX6_existingObject := goodIn_r _ [7, 8, 9, 33, 34, 35, 36, 37] (by decide +kernel) (by decide +kernel)
set_option maxRecDepth 20000 in
theorem gX6_peek_X6_existingObject : GoodIn wsX6_peek (wsV RX6 149 RX6 yX6_existingObject wsX6_existingObject) := goodIn_app (goodIn_of _ (by decide +kernel)) ggX6_peek_X6_existingObject
set_option maxRecDepth 20000 in
theorem ggX6_peek_X1_fieldSet : GoodIn wsX6_peek wsX1_fieldSet := goodIn_r _ [14, 15, 38, 39, 40, 41, 42] (by decide +kernel) (by decide +kernel)
set_option maxRecDepth 20000 in
theorem gX6_peek_X1_fieldSet : GoodIn wsX6_peek (wsV RX6 46 RX1 yX1_fieldSet wsX1_fieldSet) := goodIn_app (goodIn_of _ (by decide +kernel)) ggX6_peek_X1_fieldSet
set_option maxRecDepth 20000 in
theorem ggX6_peek_X6_contains : GoodIn wsX6_peek wsX6_contains := goodIn_r _ [18, 19, 20, 6, 21] (by decide +kernel) (by decide +kernel)
set_option maxRecDepth 20000 in
theorem gX6_peek_X6_contains : GoodIn wsX6_peek (va_wsS RX6 71 yX6_contains wsX6_contains) := goodIn_app (goodIn_of _ (by decide +kernel)) ggX6_peek_X6_contains
set_option maxRecDepth 20000 in
theorem ggX6_peek_X5_valueOf : GoodIn wsX6_peek wsX5_valueOf := goodIn_r _ [26, 27, 28, 29, 30, 31, 32] (by decide +kernel) (by decide +kernel)
set_option maxRecDepth 20000 in
theorem gX6_peek_X5_valueOf : GoodIn wsX6_peek (wsV RX6 159 RX5 yX5_valueOf wsX5_valueOf) := goodIn_app (goodIn_of _ (by decide +kernel)) ggX6_peek_X5_valueOf
theorem dX6_peek_0 : decode cX6_peek 0 = .ok (.aload_n 0, 1) := by decide +kernel
theorem dX6_peek_1 : decode cX6_peek 1 = .ok (.iload_n 1, 1) := by decide +kernel
theorem dX6_peek_2 : decode cX6_peek 2 = .ok (.invokevirtual 149, 3) := by decide +kernel
theorem dX6_peek_5 : decode cX6_peek 5 = .ok (.astore_n 3, 1) := by decide +kernel
theorem dX6_peek_6 : decode cX6_peek 6 = .ok (.aload_n 3, 1) := by decide +kernel
theorem dX6_peek_7 : decode cX6_peek 7 = .ok (.ifnonnull 6, 3) := by decide +kernel
theorem dX6_peek_10 : decode cX6_peek 10 = .ok (.ldc 156, 2) := by decide +kernel
theorem dX6_peek_12 : decode cX6_peek 12 = .ok (.ireturn, 1) := by decide +kernel
theorem dX6_peek_13 : decode cX6_peek 13 = .ok (.aload_n 3, 1) := by decide +kernel
theorem dX6_peek_14 : decode cX6_peek 14 = .ok (.getfield 157, 3) := by decide +kernel
theorem dX6_peek_17 : decode cX6_peek 17 = .ok (.aload_n 3, 1) := by decide +kernel
theorem dX6_peek_18 : decode cX6_peek 18 = .ok (.getfield 158, 3) := by decide +kernel
theorem dX6_peek_21 : decode cX6_peek 21 = .ok (.invokevirtual 46, 3) := by decide +kernel
theorem dX6_peek_24 : decode cX6_peek 24 = .ok (.iload_n 2, 1) := by decide +kernel
theorem dX6_peek_25 : decode cX6_peek 25 = .ok (.invokestatic 71, 3) := by decide +kernel
theorem dX6_peek_28 : decode cX6_peek 28 = .ok (.ifCond .ne 6, 3) := by decide +kernel
theorem dX6_peek_31 : decode cX6_peek 31 = .ok (.ldc 81, 2) := by decide +kernel
theorem dX6_peek_33 : decode cX6_peek 33 = .ok (.ireturn, 1) := by decide +kernel
theorem dX6_peek_34 : decode cX6_peek 34 = .ok (.aload_n 3, 1) := by decide +kernel
theorem dX6_peek_35 : decode cX6_peek 35 = .ok (.iload_n 2, 1) := by decide +kernel
theorem dX6_peek_36 : decode cX6_peek 36 = .ok (.invokevirtual 159, 3) := by decide +kernel
theorem dX6_peek_39 : decode cX6_peek 39 = .ok (.ireturn, 1) := by decide +kernel
set_option maxRecDepth 20000 in
theorem ggX6_objectVersion_X6_existingObject : GoodIn wsX6_objectVersion wsX6_existingObject := goodIn_r _ [6, 7, 8, 13, 14, 15, 16, 17] (by decide +kernel) (by decide +kernel)
set_option maxRecDepth 20000 in
theorem gX6_objectVersion_X6_existingObject : GoodIn wsX6_objectVersion (wsV RX6 149 RX6 yX6_existingObject wsX6_existingObject) := goodIn_app (goodIn_of _ (by decide +kernel)) ggX6_objectVersion_X6_existingObject
theorem dX6_objectVersion_0 : decode cX6_objectVersion 0 = .ok (.aload_n 0, 1) := by decide +kernel
theorem dX6_objectVersion_1 : decode cX6_objectVersion 1 = .ok (.iload_n 1, 1) := by decide +kernel
theorem dX6_objectVersion_2 : decode cX6_objectVersion 2 = .ok (.invokevirtual 149, 3) := by decide +kernel
theorem dX6_objectVersion_5 : decode cX6_objectVersion 5 = .ok (.astore_n 2, 1) := by decide +kernel
theorem dX6_objectVersion_6 : decode cX6_objectVersion 6 = .ok (.aload_n 2, 1) := by decide +kernel
theorem dX6_objectVersion_7 : decode cX6_objectVersion 7 = .ok (.ifnonnull 6, 3) := by decide +kernel
theorem dX6_objectVersion_10 : decode cX6_objectVersion 10 = .ok (.ldc 156, 2) := by decide +kernel
theorem dX6_objectVersion_12 : decode cX6_objectVersion 12 = .ok (.ireturn, 1) := by decide +kernel
theorem dX6_objectVersion_13 : decode cX6_objectVersion 13 = .ok (.aload_n 2, 1) := by decide +kernel
theorem dX6_objectVersion_14 : decode cX6_objectVersion 14 = .ok (.getfield 158, 3) := by decide +kernel
theorem dX6_objectVersion_17 : decode cX6_objectVersion 17 = .ok (.ireturn, 1) := by decide +kernel
set_option maxRecDepth 20000 in
theorem ggX6_conversions_X6_existingObject : GoodIn wsX6_conversions wsX6_existingObject := goodIn_r _ [6, 7, 8, 13, 14, 15, 16, 17] (by decide +kernel) (by decide +kernel)
set_option maxRecDepth 20000 in
theorem gX6_conversions_X6_existingObject : GoodIn wsX6_conversions (wsV RX6 149 RX6 yX6_existingObject wsX6_existingObject) := goodIn_app (goodIn_of _ (by decide +kernel)) ggX6_conversions_X6_existingObject
theorem dX6_conversions_0 : decode cX6_conversions 0 = .ok (.aload_n 0, 1) := by decide +kernel
theorem dX6_conversions_1 : decode cX6_conversions 1 = .ok (.iload_n 1, 1) := by decide +kernel
theorem dX6_conversions_2 : decode cX6_conversions 2 = .ok (.invokevirtual 149, 3) := by decide +kernel
theorem dX6_conversions_5 : decode cX6_conversions 5 = .ok (.astore_n 2, 1) := by decide +kernel
theorem dX6_conversions_6 : decode cX6_conversions 6 = .ok (.aload_n 2, 1) := by decide +kernel
theorem dX6_conversions_7 : decode cX6_conversions 7 = .ok (.ifnonnull 6, 3) := by decide +kernel
theorem dX6_conversions_10 : decode cX6_conversions 10 = .ok (.ldc 156, 2) := by decide +kernel
theorem dX6_conversions_12 : decode cX6_conversions 12 = .ok (.ireturn, 1) := by decide +kernel
theorem dX6_conversions_13 : decode cX6_conversions 13 = .ok (.aload_n 2, 1) := by decide +kernel
theorem dX6_conversions_14 : decode cX6_conversions 14 = .ok (.getfield 158, 3) := by decide +kernel
theorem dX6_conversions_17 : decode cX6_conversions 17 = .ok (.aload_n 2, 1) := by decide +kernel
theorem dX6_conversions_18 : decode cX6_conversions 18 = .ok (.getfield 162, 3) := by decide +kernel
theorem dX6_conversions_21 : decode cX6_conversions 21 = .ok (.isub, 1) := by decide +kernel
theorem dX6_conversions_22 : decode cX6_conversions 22 = .ok (.ireturn, 1) := by decide +kernel
set_option maxRecDepth 20000 in
theorem ggX6_pinnedBy_X6_existingObject : GoodIn wsX6_pinnedBy wsX6_existingObject := goodIn_r _ [7, 8, 9, 33, 34, 35, 36, 37] (by decide +kernel) (by decide +kernel)
set_option maxRecDepth 20000 in
theorem gX6_pinnedBy_X6_existingObject : GoodIn wsX6_pinnedBy (wsV RX6 149 RX6 yX6_existingObject wsX6_existingObject) := goodIn_app (goodIn_of _ (by decide +kernel)) ggX6_pinnedBy_X6_existingObject
set_option maxRecDepth 20000 in
theorem ggX6_pinnedBy_X6_smallestPin : GoodIn wsX6_pinnedBy wsX6_smallestPin := goodIn_r _ [13, 14, 15, 16, 17, 18, 19, 20, 21, 22, 23, 24, 25, 26, 27, 28, 29, 30, 31, 32, 33, 34, 35, 36, 37, 38, 39, 40, 41, 42] (by decide +kernel) (by decide +kernel)
set_option maxRecDepth 20000 in
theorem gX6_pinnedBy_X6_smallestPin : GoodIn wsX6_pinnedBy (wsV RX6 165 RX6 yX6_smallestPin wsX6_smallestPin) := goodIn_app (goodIn_of _ (by decide +kernel)) ggX6_pinnedBy_X6_smallestPin
theorem dX6_pinnedBy_0 : decode cX6_pinnedBy 0 = .ok (.aload_n 0, 1) := by decide +kernel
theorem dX6_pinnedBy_1 : decode cX6_pinnedBy 1 = .ok (.iload_n 1, 1) := by decide +kernel
theorem dX6_pinnedBy_2 : decode cX6_pinnedBy 2 = .ok (.invokevirtual 149, 3) := by decide +kernel
theorem dX6_pinnedBy_5 : decode cX6_pinnedBy 5 = .ok (.ifnonnull 6, 3) := by decide +kernel
theorem dX6_pinnedBy_8 : decode cX6_pinnedBy 8 = .ok (.ldc 156, 2) := by decide +kernel
theorem dX6_pinnedBy_10 : decode cX6_pinnedBy 10 = .ok (.ireturn, 1) := by decide +kernel
theorem dX6_pinnedBy_11 : decode cX6_pinnedBy 11 = .ok (.aload_n 0, 1) := by decide +kernel
theorem dX6_pinnedBy_12 : decode cX6_pinnedBy 12 = .ok (.iload_n 1, 1) := by decide +kernel
theorem dX6_pinnedBy_13 : decode cX6_pinnedBy 13 = .ok (.invokevirtual 165, 3) := by decide +kernel
theorem dX6_pinnedBy_16 : decode cX6_pinnedBy 16 = .ok (.istore_n 2, 1) := by decide +kernel
theorem dX6_pinnedBy_17 : decode cX6_pinnedBy 17 = .ok (.iload_n 2, 1) := by decide +kernel
theorem dX6_pinnedBy_18 : decode cX6_pinnedBy 18 = .ok (.bipush 8, 2) := by decide +kernel
theorem dX6_pinnedBy_20 : decode cX6_pinnedBy 20 = .ok (.if_icmp .lt 6, 3) := by decide +kernel
theorem dX6_pinnedBy_23 : decode cX6_pinnedBy 23 = .ok (.ldc 168, 2) := by decide +kernel
theorem dX6_pinnedBy_25 : decode cX6_pinnedBy 25 = .ok (.ireturn, 1) := by decide +kernel
theorem dX6_pinnedBy_26 : decode cX6_pinnedBy 26 = .ok (.iload_n 2, 1) := by decide +kernel
theorem dX6_pinnedBy_27 : decode cX6_pinnedBy 27 = .ok (.ireturn, 1) := by decide +kernel
set_option maxRecDepth 20000 in
theorem ggX6_outdated_X6_historyOf : GoodIn wsX6_outdated wsX6_historyOf := goodIn_r _ [7, 8, 9, 19, 20, 21, 22, 23] (by decide +kernel) (by decide +kernel)
set_option maxRecDepth 20000 in
theorem gX6_outdated_X6_historyOf : GoodIn wsX6_outdated (wsV RX6 37 RX6 yX6_historyOf wsX6_historyOf) := goodIn_app (goodIn_of _ (by decide +kernel)) ggX6_outdated_X6_historyOf
set_option maxRecDepth 20000 in
theorem ggX6_outdated_X6_outdatedObject : GoodIn wsX6_outdated wsX6_outdatedObject := goodIn_r _ [13, 14, 15, 16, 6, 17, 2, 18, 24, 25, 26, 27, 28, 29, 30, 31, 32, 19, 20, 21, 22, 23] (by decide +kernel) (by decide +kernel)
set_option maxRecDepth 20000 in
theorem gX6_outdated_X6_outdatedObject : GoodIn wsX6_outdated (wsV RX6 169 RX6 yX6_outdatedObject wsX6_outdatedObject) := goodIn_app (goodIn_of _ (by decide +kernel)) ggX6_outdated_X6_outdatedObject
theorem dX6_outdated_0 : decode cX6_outdated 0 = .ok (.aload_n 0, 1) := by decide +kernel
theorem dX6_outdated_1 : decode cX6_outdated 1 = .ok (.iload_n 1, 1) := by decide +kernel
theorem dX6_outdated_2 : decode cX6_outdated 2 = .ok (.invokevirtual 37, 3) := by decide +kernel
theorem dX6_outdated_5 : decode cX6_outdated 5 = .ok (.astore_n 2, 1) := by decide +kernel
theorem dX6_outdated_6 : decode cX6_outdated 6 = .ok (.aload_n 2, 1) := by decide +kernel
theorem dX6_outdated_7 : decode cX6_outdated 7 = .ok (.ifnonnull 6, 3) := by decide +kernel
theorem dX6_outdated_10 : decode cX6_outdated 10 = .ok (.ldc 41, 2) := by decide +kernel
theorem dX6_outdated_12 : decode cX6_outdated 12 = .ok (.ireturn, 1) := by decide +kernel
theorem dX6_outdated_13 : decode cX6_outdated 13 = .ok (.iconst 0, 1) := by decide +kernel
theorem dX6_outdated_14 : decode cX6_outdated 14 = .ok (.istore_n 3, 1) := by decide +kernel
theorem dX6_outdated_15 : decode cX6_outdated 15 = .ok (.iconst 0, 1) := by decide +kernel
theorem dX6_outdated_16 : decode cX6_outdated 16 = .ok (.istore 4, 2) := by decide +kernel
theorem dX6_outdated_18 : decode cX6_outdated 18 = .ok (.iload 4, 2) := by decide +kernel
theorem dX6_outdated_20 : decode cX6_outdated 20 = .ok (.aload_n 0, 1) := by decide +kernel
theorem dX6_outdated_21 : decode cX6_outdated 21 = .ok (.getfield 136, 3) := by decide +kernel
theorem dX6_outdated_24 : decode cX6_outdated 24 = .ok (.if_icmp .ge 22, 3) := by decide +kernel
theorem dX6_outdated_27 : decode cX6_outdated 27 = .ok (.aload_n 0, 1) := by decide +kernel
theorem dX6_outdated_28 : decode cX6_outdated 28 = .ok (.iload 4, 2) := by decide +kernel
theorem dX6_outdated_30 : decode cX6_outdated 30 = .ok (.aload_n 2, 1) := by decide +kernel
theorem dX6_outdated_31 : decode cX6_outdated 31 = .ok (.invokevirtual 169, 3) := by decide +kernel
theorem dX6_outdated_34 : decode cX6_outdated 34 = .ok (.ifnull 6, 3) := by decide +kernel
theorem dX6_outdated_37 : decode cX6_outdated 37 = .ok (.iinc 3 1, 3) := by decide +kernel
theorem dX6_outdated_40 : decode cX6_outdated 40 = .ok (.iinc 4 1, 3) := by decide +kernel
theorem dX6_outdated_43 : decode cX6_outdated 43 = .ok (.goto (-25), 3) := by decide +kernel
theorem dX6_outdated_46 : decode cX6_outdated 46 = .ok (.iload_n 3, 1) := by decide +kernel
theorem dX6_outdated_47 : decode cX6_outdated 47 = .ok (.ireturn, 1) := by decide +kernel
set_option maxRecDepth 20000 in
theorem ggX6_convertAll_X6_historyOf : GoodIn wsX6_convertAll wsX6_historyOf := goodIn_r _ [7, 8, 9, 78, 79, 80, 81, 82] (by decide +kernel) (by decide +kernel)
set_option maxRecDepth 20000 in
theorem gX6_convertAll_X6_historyOf : GoodIn wsX6_convertAll (wsV RX6 37 RX6 yX6_historyOf wsX6_historyOf) := goodIn_app (goodIn_of _ (by decide +kernel)) ggX6_convertAll_X6_historyOf
set_option maxRecDepth 20000 in
theorem ggX6_convertAll_X6_outdatedObject : GoodIn wsX6_convertAll wsX6_outdatedObject := goodIn_r _ [13, 14, 15, 16, 6, 17, 2, 18, 88, 89, 90, 91, 83, 84, 85, 86, 87, 78, 79, 80, 81, 82] (by decide +kernel) (by decide +kernel)
set_option maxRecDepth 20000 in
theorem gX6_convertAll_X6_outdatedObject : GoodIn wsX6_convertAll (wsV RX6 169 RX6 yX6_outdatedObject wsX6_outdatedObject) := goodIn_app (goodIn_of _ (by decide +kernel)) ggX6_convertAll_X6_outdatedObject
set_option maxRecDepth 20000 in
theorem ggX6_convertAll_X6_smallestPin : GoodIn wsX6_convertAll wsX6_smallestPin := goodIn_r _ [22, 23, 24, 25, 26, 27, 28, 29, 30, 31, 32, 33, 34, 35, 36, 37, 38, 39, 40, 41, 78, 79, 80, 81, 82, 92, 93, 94, 95, 96] (by decide +kernel) (by decide +kernel)
set_option maxRecDepth 20000 in
theorem gX6_convertAll_X6_smallestPin : GoodIn wsX6_convertAll (wsV RX6 165 RX6 yX6_smallestPin wsX6_smallestPin) := goodIn_app (goodIn_of _ (by decide +kernel)) ggX6_convertAll_X6_smallestPin
set_option maxRecDepth 20000 in
theorem ggX6_convertAll_X5_convertTo : GoodIn wsX6_convertAll wsX5_convertTo := goodIn_r _ [46, 47, 48, 49, 50, 51, 52, 53, 54, 55, 56, 57, 58, 59, 60, 61, 62, 63, 64, 65, 66, 67, 68, 69, 70, 71, 72, 6, 73, 74, 75, 76, 77, 88, 89, 90, 91, 83, 84, 85, 86, 87, 97, 98, 99, 100, 101] (by decide +kernel) (by decide +kernel)
set_option maxRecDepth 20000 in
theorem gX6_convertAll_X5_convertTo : GoodIn wsX6_convertAll (wsV RX6 173 RX5 yX5_convertTo wsX5_convertTo) := goodIn_app (goodIn_of _ (by decide +kernel)) ggX6_convertAll_X5_convertTo
theorem dX6_convertAll_0 : decode cX6_convertAll 0 = .ok (.aload_n 0, 1) := by decide +kernel
theorem dX6_convertAll_1 : decode cX6_convertAll 1 = .ok (.iload_n 1, 1) := by decide +kernel
theorem dX6_convertAll_2 : decode cX6_convertAll 2 = .ok (.invokevirtual 37, 3) := by decide +kernel
theorem dX6_convertAll_5 : decode cX6_convertAll 5 = .ok (.astore_n 2, 1) := by decide +kernel
theorem dX6_convertAll_6 : decode cX6_convertAll 6 = .ok (.aload_n 2, 1) := by decide +kernel
theorem dX6_convertAll_7 : decode cX6_convertAll 7 = .ok (.ifnonnull 6, 3) := by decide +kernel
theorem dX6_convertAll_10 : decode cX6_convertAll 10 = .ok (.ldc 41, 2) := by decide +kernel
theorem dX6_convertAll_12 : decode cX6_convertAll 12 = .ok (.ireturn, 1) := by decide +kernel
theorem dX6_convertAll_13 : decode cX6_convertAll 13 = .ok (.iconst 0, 1) := by decide +kernel
theorem dX6_convertAll_14 : decode cX6_convertAll 14 = .ok (.istore_n 3, 1) := by decide +kernel
theorem dX6_convertAll_15 : decode cX6_convertAll 15 = .ok (.iconst 0, 1) := by decide +kernel
theorem dX6_convertAll_16 : decode cX6_convertAll 16 = .ok (.istore 4, 2) := by decide +kernel
theorem dX6_convertAll_18 : decode cX6_convertAll 18 = .ok (.iload 4, 2) := by decide +kernel
theorem dX6_convertAll_20 : decode cX6_convertAll 20 = .ok (.aload_n 0, 1) := by decide +kernel
theorem dX6_convertAll_21 : decode cX6_convertAll 21 = .ok (.getfield 136, 3) := by decide +kernel
theorem dX6_convertAll_24 : decode cX6_convertAll 24 = .ok (.if_icmp .ge 51, 3) := by decide +kernel
theorem dX6_convertAll_27 : decode cX6_convertAll 27 = .ok (.aload_n 0, 1) := by decide +kernel
theorem dX6_convertAll_28 : decode cX6_convertAll 28 = .ok (.iload 4, 2) := by decide +kernel
theorem dX6_convertAll_30 : decode cX6_convertAll 30 = .ok (.aload_n 2, 1) := by decide +kernel
theorem dX6_convertAll_31 : decode cX6_convertAll 31 = .ok (.invokevirtual 169, 3) := by decide +kernel
theorem dX6_convertAll_34 : decode cX6_convertAll 34 = .ok (.astore 5, 2) := by decide +kernel
theorem dX6_convertAll_36 : decode cX6_convertAll 36 = .ok (.aload 5, 2) := by decide +kernel
theorem dX6_convertAll_38 : decode cX6_convertAll 38 = .ok (.ifnull 31, 3) := by decide +kernel
theorem dX6_convertAll_41 : decode cX6_convertAll 41 = .ok (.aload_n 0, 1) := by decide +kernel
theorem dX6_convertAll_42 : decode cX6_convertAll 42 = .ok (.iload 4, 2) := by decide +kernel
theorem dX6_convertAll_44 : decode cX6_convertAll 44 = .ok (.invokevirtual 165, 3) := by decide +kernel
theorem dX6_convertAll_47 : decode cX6_convertAll 47 = .ok (.aload_n 2, 1) := by decide +kernel
theorem dX6_convertAll_48 : decode cX6_convertAll 48 = .ok (.getfield 42, 3) := by decide +kernel
theorem dX6_convertAll_51 : decode cX6_convertAll 51 = .ok (.if_icmp .lt 18, 3) := by decide +kernel
theorem dX6_convertAll_54 : decode cX6_convertAll 54 = .ok (.aload 5, 2) := by decide +kernel
theorem dX6_convertAll_56 : decode cX6_convertAll 56 = .ok (.aload_n 2, 1) := by decide +kernel
theorem dX6_convertAll_57 : decode cX6_convertAll 57 = .ok (.getfield 42, 3) := by decide +kernel
theorem dX6_convertAll_60 : decode cX6_convertAll 60 = .ok (.invokevirtual 173, 3) := by decide +kernel
theorem dX6_convertAll_63 : decode cX6_convertAll 63 = .ok (.ifCond .eq 6, 3) := by decide +kernel
theorem dX6_convertAll_66 : decode cX6_convertAll 66 = .ok (.iinc 3 1, 3) := by decide +kernel
theorem dX6_convertAll_69 : decode cX6_convertAll 69 = .ok (.iinc 4 1, 3) := by decide +kernel
theorem dX6_convertAll_72 : decode cX6_convertAll 72 = .ok (.goto (-54), 3) := by decide +kernel
theorem dX6_convertAll_75 : decode cX6_convertAll 75 = .ok (.iload_n 3, 1) := by decide +kernel
theorem dX6_convertAll_76 : decode cX6_convertAll 76 = .ok (.ireturn, 1) := by decide +kernel
theorem dX6_isField_0 : decode cX6_isField 0 = .ok (.iload_n 0, 1) := by decide +kernel
theorem dX6_isField_1 : decode cX6_isField 1 = .ok (.ifCond .lt 13, 3) := by decide +kernel
theorem dX6_isField_4 : decode cX6_isField 4 = .ok (.iload_n 0, 1) := by decide +kernel
theorem dX6_isField_5 : decode cX6_isField 5 = .ok (.bipush 8, 2) := by decide +kernel
theorem dX6_isField_7 : decode cX6_isField 7 = .ok (.if_icmp .ge 7, 3) := by decide +kernel
theorem dX6_isField_10 : decode cX6_isField 10 = .ok (.iconst 1, 1) := by decide +kernel
theorem dX6_isField_11 : decode cX6_isField 11 = .ok (.goto 4, 3) := by decide +kernel
theorem dX6_isField_14 : decode cX6_isField 14 = .ok (.iconst 0, 1) := by decide +kernel
theorem dX6_isField_15 : decode cX6_isField 15 = .ok (.ireturn, 1) := by decide +kernel
theorem dX6_isValue_0 : decode cX6_isValue 0 = .ok (.lload_n 0, 1) := by decide +kernel
theorem dX6_isValue_1 : decode cX6_isValue 1 = .ok (.ldc2_w 176, 3) := by decide +kernel
theorem dX6_isValue_4 : decode cX6_isValue 4 = .ok (.lcmp, 1) := by decide +kernel
theorem dX6_isValue_5 : decode cX6_isValue 5 = .ok (.ifCond .lt 15, 3) := by decide +kernel
theorem dX6_isValue_8 : decode cX6_isValue 8 = .ok (.lload_n 0, 1) := by decide +kernel
theorem dX6_isValue_9 : decode cX6_isValue 9 = .ok (.ldc2_w 178, 3) := by decide +kernel
theorem dX6_isValue_12 : decode cX6_isValue 12 = .ok (.lcmp, 1) := by decide +kernel
theorem dX6_isValue_13 : decode cX6_isValue 13 = .ok (.ifCond .gt 7, 3) := by decide +kernel
theorem dX6_isValue_16 : decode cX6_isValue 16 = .ok (.iconst 1, 1) := by decide +kernel
theorem dX6_isValue_17 : decode cX6_isValue 17 = .ok (.goto 4, 3) := by decide +kernel
theorem dX6_isValue_20 : decode cX6_isValue 20 = .ok (.iconst 0, 1) := by decide +kernel
theorem dX6_isValue_21 : decode cX6_isValue 21 = .ok (.ireturn, 1) := by decide +kernel
set_option maxRecDepth 20000 in
theorem ggX6_contains_X6_isField : GoodIn wsX6_contains wsX6_isField := goodIn_r _ [4] (by decide +kernel) (by decide +kernel)
set_option maxRecDepth 20000 in
theorem gX6_contains_X6_isField : GoodIn wsX6_contains (va_wsS RX6 63 yX6_isField wsX6_isField) := goodIn_app (goodIn_of _ (by decide +kernel)) ggX6_contains_X6_isField
theorem dX6_contains_0 : decode cX6_contains 0 = .ok (.iload_n 1, 1) := by decide +kernel
theorem dX6_contains_1 : decode cX6_contains 1 = .ok (.invokestatic 63, 3) := by decide +kernel
theorem dX6_contains_4 : decode cX6_contains 4 = .ok (.ifCond .eq 16, 3) := by decide +kernel
theorem dX6_contains_7 : decode cX6_contains 7 = .ok (.iload_n 0, 1) := by decide +kernel
theorem dX6_contains_8 : decode cX6_contains 8 = .ok (.iload_n 1, 1) := by decide +kernel
theorem dX6_contains_9 : decode cX6_contains 9 = .ok (.ishr, 1) := by decide +kernel
theorem dX6_contains_10 : decode cX6_contains 10 = .ok (.iconst 1, 1) := by decide +kernel
theorem dX6_contains_11 : decode cX6_contains 11 = .ok (.iand, 1) := by decide +kernel
theorem dX6_contains_12 : decode cX6_contains 12 = .ok (.iconst 1, 1) := by decide +kernel
theorem dX6_contains_13 : decode cX6_contains 13 = .ok (.if_icmp .ne 7, 3) := by decide +kernel
theorem dX6_contains_16 : decode cX6_contains 16 = .ok (.iconst 1, 1) := by decide +kernel
theorem dX6_contains_17 : decode cX6_contains 17 = .ok (.goto 4, 3) := by decide +kernel
theorem dX6_contains_20 : decode cX6_contains 20 = .ok (.iconst 0, 1) := by decide +kernel
theorem dX6_contains_21 : decode cX6_contains 21 = .ok (.ireturn, 1) := by decide +kernel
theorem dX6_historyOf_0 : decode cX6_historyOf 0 = .ok (.iload_n 1, 1) := by decide +kernel
theorem dX6_historyOf_1 : decode cX6_historyOf 1 = .ok (.ifCond .lt 11, 3) := by decide +kernel
theorem dX6_historyOf_4 : decode cX6_historyOf 4 = .ok (.iload_n 1, 1) := by decide +kernel
theorem dX6_historyOf_5 : decode cX6_historyOf 5 = .ok (.aload_n 0, 1) := by decide +kernel
theorem dX6_historyOf_6 : decode cX6_historyOf 6 = .ok (.getfield 29, 3) := by decide +kernel
theorem dX6_historyOf_9 : decode cX6_historyOf 9 = .ok (.if_icmp .lt 5, 3) := by decide +kernel
theorem dX6_historyOf_12 : decode cX6_historyOf 12 = .ok (.aconst_null, 1) := by decide +kernel
theorem dX6_historyOf_13 : decode cX6_historyOf 13 = .ok (.areturn, 1) := by decide +kernel
theorem dX6_historyOf_14 : decode cX6_historyOf 14 = .ok (.aload_n 0, 1) := by decide +kernel
theorem dX6_historyOf_15 : decode cX6_historyOf 15 = .ok (.getfield 11, 3) := by decide +kernel
theorem dX6_historyOf_18 : decode cX6_historyOf 18 = .ok (.iload_n 1, 1) := by decide +kernel
theorem dX6_historyOf_19 : decode cX6_historyOf 19 = .ok (.aaload, 1) := by decide +kernel
theorem dX6_historyOf_20 : decode cX6_historyOf 20 = .ok (.areturn, 1) := by decide +kernel
theorem dX6_stackOf_0 : decode cX6_stackOf 0 = .ok (.iload_n 1, 1) := by decide +kernel
theorem dX6_stackOf_1 : decode cX6_stackOf 1 = .ok (.ifCond .lt 8, 3) := by decide +kernel
theorem dX6_stackOf_4 : decode cX6_stackOf 4 = .ok (.iload_n 1, 1) := by decide +kernel
theorem dX6_stackOf_5 : decode cX6_stackOf 5 = .ok (.iconst 4, 1) := by decide +kernel
theorem dX6_stackOf_6 : decode cX6_stackOf 6 = .ok (.if_icmp .lt 5, 3) := by decide +kernel
theorem dX6_stackOf_9 : decode cX6_stackOf 9 = .ok (.aconst_null, 1) := by decide +kernel
theorem dX6_stackOf_10 : decode cX6_stackOf 10 = .ok (.areturn, 1) := by decide +kernel
theorem dX6_stackOf_11 : decode cX6_stackOf 11 = .ok (.aload_n 0, 1) := by decide +kernel
theorem dX6_stackOf_12 : decode cX6_stackOf 12 = .ok (.getfield 17, 3) := by decide +kernel
theorem dX6_stackOf_15 : decode cX6_stackOf 15 = .ok (.iload_n 1, 1) := by decide +kernel
theorem dX6_stackOf_16 : decode cX6_stackOf 16 = .ok (.aaload, 1) := by decide +kernel
theorem dX6_stackOf_17 : decode cX6_stackOf 17 = .ok (.areturn, 1) := by decide +kernel
theorem dX6_existingObject_0 : decode cX6_existingObject 0 = .ok (.iload_n 1, 1) := by decide +kernel
theorem dX6_existingObject_1 : decode cX6_existingObject 1 = .ok (.ifCond .lt 11, 3) := by decide +kernel
theorem dX6_existingObject_4 : decode cX6_existingObject 4 = .ok (.iload_n 1, 1) := by decide +kernel
theorem dX6_existingObject_5 : decode cX6_existingObject 5 = .ok (.aload_n 0, 1) := by decide +kernel
theorem dX6_existingObject_6 : decode cX6_existingObject 6 = .ok (.getfield 136, 3) := by decide +kernel
theorem dX6_existingObject_9 : decode cX6_existingObject 9 = .ok (.if_icmp .lt 5, 3) := by decide +kernel
theorem dX6_existingObject_12 : decode cX6_existingObject 12 = .ok (.aconst_null, 1) := by decide +kernel
theorem dX6_existingObject_13 : decode cX6_existingObject 13 = .ok (.areturn, 1) := by decide +kernel
theorem dX6_existingObject_14 : decode cX6_existingObject 14 = .ok (.aload_n 0, 1) := by decide +kernel
theorem dX6_existingObject_15 : decode cX6_existingObject 15 = .ok (.getfield 24, 3) := by decide +kernel
theorem dX6_existingObject_18 : decode cX6_existingObject 18 = .ok (.iload_n 1, 1) := by decide +kernel
theorem dX6_existingObject_19 : decode cX6_existingObject 19 = .ok (.aaload, 1) := by decide +kernel
theorem dX6_existingObject_20 : decode cX6_existingObject 20 = .ok (.areturn, 1) := by decide +kernel
set_option maxRecDepth 20000 in
theorem ggX6_countFrames_X0_countFrames : GoodIn wsX6_countFrames wsX0_countFrames := goodIn_r _ [6, 7, 8, 14, 15, 16, 17, 18, 19, 20, 21, 22, 23] (by decide +kernel) (by decide +kernel)
set_option maxRecDepth 20000 in
theorem gX6_countFrames_X0_countFrames : GoodIn wsX6_countFrames (wsV RX6 180 RX0 yX0_countFrames wsX0_countFrames) := goodIn_app (goodIn_of _ (by decide +kernel)) ggX6_countFrames_X0_countFrames
theorem dX6_countFrames_0 : decode cX6_countFrames 0 = .ok (.iconst 0, 1) := by decide +kernel
theorem dX6_countFrames_1 : decode cX6_countFrames 1 = .ok (.istore 4, 2) := by decide +kernel
theorem dX6_countFrames_3 : decode cX6_countFrames 3 = .ok (.iconst 0, 1) := by decide +kernel
theorem dX6_countFrames_4 : decode cX6_countFrames 4 = .ok (.istore 5, 2) := by decide +kernel
theorem dX6_countFrames_6 : decode cX6_countFrames 6 = .ok (.iload 5, 2) := by decide +kernel
theorem dX6_countFrames_8 : decode cX6_countFrames 8 = .ok (.iconst 4, 1) := by decide +kernel
theorem dX6_countFrames_9 : decode cX6_countFrames 9 = .ok (.if_icmp .ge 27, 3) := by decide +kernel
theorem dX6_countFrames_12 : decode cX6_countFrames 12 = .ok (.iload 4, 2) := by decide +kernel
theorem dX6_countFrames_14 : decode cX6_countFrames 14 = .ok (.aload_n 0, 1) := by decide +kernel
theorem dX6_countFrames_15 : decode cX6_countFrames 15 = .ok (.getfield 17, 3) := by decide +kernel
theorem dX6_countFrames_18 : decode cX6_countFrames 18 = .ok (.iload 5, 2) := by decide +kernel
theorem dX6_countFrames_20 : decode cX6_countFrames 20 = .ok (.aaload, 1) := by decide +kernel
theorem dX6_countFrames_21 : decode cX6_countFrames 21 = .ok (.iload_n 1, 1) := by decide +kernel
theorem dX6_countFrames_22 : decode cX6_countFrames 22 = .ok (.iload_n 2, 1) := by decide +kernel
theorem dX6_countFrames_23 : decode cX6_countFrames 23 = .ok (.iload_n 3, 1) := by decide +kernel
theorem dX6_countFrames_24 : decode cX6_countFrames 24 = .ok (.invokevirtual 180, 3) := by decide +kernel
theorem dX6_countFrames_27 : decode cX6_countFrames 27 = .ok (.iadd, 1) := by decide +kernel
theorem dX6_countFrames_28 : decode cX6_countFrames 28 = .ok (.istore 4, 2) := by decide +kernel
theorem dX6_countFrames_30 : decode cX6_countFrames 30 = .ok (.iinc 5 1, 3) := by decide +kernel
theorem dX6_countFrames_33 : decode cX6_countFrames 33 = .ok (.goto (-27), 3) := by decide +kernel
theorem dX6_countFrames_36 : decode cX6_countFrames 36 = .ok (.iload 4, 2) := by decide +kernel
theorem dX6_countFrames_38 : decode cX6_countFrames 38 = .ok (.ireturn, 1) := by decide +kernel
set_option maxRecDepth 20000 in
theorem ggX6_smallestPin_X0_smallestPin : GoodIn wsX6_smallestPin wsX0_smallestPin := goodIn_r _ [10, 11, 12, 13, 3, 4, 5, 14, 15, 16, 17, 18, 19, 25, 26, 27, 28, 29] (by decide +kernel) (by decide +kernel)
set_option maxRecDepth 20000 in
theorem gX6_smallestPin_X0_smallestPin : GoodIn wsX6_smallestPin (wsV RX6 181 RX0 yX0_smallestPin wsX0_smallestPin) := goodIn_app (goodIn_of _ (by decide +kernel)) ggX6_smallestPin_X0_smallestPin
theorem dX6_smallestPin_0 : decode cX6_smallestPin 0 = .ok (.bipush 8, 2) := by decide +kernel
theorem dX6_smallestPin_2 : decode cX6_smallestPin 2 = .ok (.istore_n 2, 1) := by decide +kernel
theorem dX6_smallestPin_3 : decode cX6_smallestPin 3 = .ok (.iconst 0, 1) := by decide +kernel
theorem dX6_smallestPin_4 : decode cX6_smallestPin 4 = .ok (.istore_n 3, 1) := by decide +kernel
theorem dX6_smallestPin_5 : decode cX6_smallestPin 5 = .ok (.iload_n 3, 1) := by decide +kernel
theorem dX6_smallestPin_6 : decode cX6_smallestPin 6 = .ok (.iconst 4, 1) := by decide +kernel
theorem dX6_smallestPin_7 : decode cX6_smallestPin 7 = .ok (.if_icmp .ge 24, 3) := by decide +kernel
theorem dX6_smallestPin_10 : decode cX6_smallestPin 10 = .ok (.iload_n 2, 1) := by decide +kernel
theorem dX6_smallestPin_11 : decode cX6_smallestPin 11 = .ok (.aload_n 0, 1) := by decide +kernel
theorem dX6_smallestPin_12 : decode cX6_smallestPin 12 = .ok (.getfield 17, 3) := by decide +kernel
theorem dX6_smallestPin_15 : decode cX6_smallestPin 15 = .ok (.iload_n 3, 1) := by decide +kernel
theorem dX6_smallestPin_16 : decode cX6_smallestPin 16 = .ok (.aaload, 1) := by decide +kernel
theorem dX6_smallestPin_17 : decode cX6_smallestPin 17 = .ok (.iload_n 1, 1) := by decide +kernel
theorem dX6_smallestPin_18 : decode cX6_smallestPin 18 = .ok (.invokevirtual 181, 3) := by decide +kernel
theorem dX6_smallestPin_21 : decode cX6_smallestPin 21 = .ok (.invokestatic 182, 3) := by decide +kernel
theorem dX6_smallestPin_24 : decode cX6_smallestPin 24 = .ok (.istore_n 2, 1) := by decide +kernel
theorem dX6_smallestPin_25 : decode cX6_smallestPin 25 = .ok (.iinc 3 1, 3) := by decide +kernel
theorem dX6_smallestPin_28 : decode cX6_smallestPin 28 = .ok (.goto (-23), 3) := by decide +kernel
theorem dX6_smallestPin_31 : decode cX6_smallestPin 31 = .ok (.iload_n 2, 1) := by decide +kernel
theorem dX6_smallestPin_32 : decode cX6_smallestPin 32 = .ok (.ireturn, 1) := by decide +kernel
set_option maxRecDepth 20000 in
theorem ggX6_access_X6_stackOf : GoodIn wsX6_access wsX6_stackOf := goodIn_r _ [13, 14, 117, 118, 119, 120, 121] (by decide +kernel) (by decide +kernel)
set_option maxRecDepth 20000 in
theorem gX6_access_X6_stackOf : GoodIn wsX6_access (wsV RX6 100 RX6 yX6_stackOf wsX6_stackOf) := goodIn_app (goodIn_of _ (by decide +kernel)) ggX6_access_X6_stackOf
set_option maxRecDepth 20000 in
theorem ggX6_access_X0_top : GoodIn wsX6_access wsX0_top := goodIn_r _ [19, 20, 21, 22, 23, 18, 24, 25, 122, 123] (by decide +kernel) (by decide +kernel)
set_option maxRecDepth 20000 in
theorem gX6_access_X0_top : GoodIn wsX6_access (wsV RX6 132 RX0 yX0_top wsX0_top) := goodIn_app (goodIn_of _ (by decide +kernel)) ggX6_access_X0_top
set_option maxRecDepth 20000 in
theorem ggX6_access_X6_existingObject : GoodIn wsX6_access wsX6_existingObject := goodIn_r _ [29, 30, 31, 117, 118, 119, 120, 121] (by decide +kernel) (by decide +kernel)
set_option maxRecDepth 20000 in
theorem gX6_access_X6_existingObject : GoodIn wsX6_access (wsV RX6 149 RX6 yX6_existingObject wsX6_existingObject) := goodIn_app (goodIn_of _ (by decide +kernel)) ggX6_access_X6_existingObject
set_option maxRecDepth 20000 in
theorem ggX6_access_X1_fieldSet : GoodIn wsX6_access wsX1_fieldSet := goodIn_r _ [36, 37, 109, 110, 111, 112, 113] (by decide +kernel) (by decide +kernel)
set_option maxRecDepth 20000 in
theorem gX6_access_X1_fieldSet : GoodIn wsX6_access (wsV RX6 46 RX1 yX1_fieldSet wsX1_fieldSet) := goodIn_app (goodIn_of _ (by decide +kernel)) ggX6_access_X1_fieldSet
set_option maxRecDepth 20000 in
theorem ggX6_access_X6_contains : GoodIn wsX6_access wsX6_contains := goodIn_r _ [40, 41, 42, 12, 43] (by decide +kernel) (by decide +kernel)
set_option maxRecDepth 20000 in
theorem gX6_access_X6_contains : GoodIn wsX6_access (va_wsS RX6 71 yX6_contains wsX6_contains) := goodIn_app (goodIn_of _ (by decide +kernel)) ggX6_access_X6_contains
set_option maxRecDepth 20000 in
theorem ggX6_access_X6_smallestPin : GoodIn wsX6_access wsX6_smallestPin := goodIn_r _ [47, 14, 48, 49, 50, 51, 52, 53, 54, 18, 55, 20, 25, 56, 57, 58, 59, 60, 61, 62, 117, 118, 119, 120, 121, 122, 123, 114, 115, 116] (by decide +kernel) (by decide +kernel)
set_option maxRecDepth 20000 in
theorem gX6_access_X6_smallestPin : GoodIn wsX6_access (wsV RX6 165 RX6 yX6_smallestPin wsX6_smallestPin) := goodIn_app (goodIn_of _ (by decide +kernel)) ggX6_access_X6_smallestPin
set_option maxRecDepth 20000 in
theorem ggX6_access_X5_convertTo : GoodIn wsX6_access wsX5_convertTo := goodIn_r _ [67, 68, 69, 70, 71, 72, 73, 74, 75, 76, 77, 78, 79, 80, 81, 82, 83, 84, 85, 86, 87, 88, 89, 90, 91, 92, 42, 12, 43, 93, 94, 95, 96, 105, 106, 107, 108, 109, 110, 111, 112, 113, 124, 125, 126, 127, 128] (by decide +kernel) (by decide +kernel)
set_option maxRecDepth 20000 in
theorem gX6_access_X5_convertTo : GoodIn wsX6_access (wsV RX6 173 RX5 yX5_convertTo wsX5_convertTo) := goodIn_app (goodIn_of _ (by decide +kernel)) ggX6_access_X5_convertTo
set_option maxRecDepth 20000 in
theorem ggX6_access_X3_pin : GoodIn wsX6_access wsX3_pin := goodIn_r _ [100, 62, 114, 115, 116] (by decide +kernel) (by decide +kernel)
set_option maxRecDepth 20000 in
theorem gX6_access_X3_pin : GoodIn wsX6_access (wsV RX6 142 RX3 yX3_pin wsX3_pin) := goodIn_app (goodIn_of _ (by decide +kernel)) ggX6_access_X3_pin
set_option maxRecDepth 20000 in
theorem ggX6_access_X5_valueOf : GoodIn wsX6_access wsX5_valueOf := goodIn_r _ [104, 69, 68, 105, 106, 107, 108] (by decide +kernel) (by decide +kernel)
set_option maxRecDepth 20000 in
theorem gX6_access_X5_valueOf : GoodIn wsX6_access (wsV RX6 159 RX5 yX5_valueOf wsX5_valueOf) := goodIn_app (goodIn_of _ (by decide +kernel)) ggX6_access_X5_valueOf
theorem dX6_access_0 : decode cX6_access 0 = .ok (.aload_n 0, 1) := by decide +kernel
theorem dX6_access_1 : decode cX6_access 1 = .ok (.iload_n 1, 1) := by decide +kernel
theorem dX6_access_2 : decode cX6_access 2 = .ok (.invokevirtual 100, 3) := by decide +kernel
theorem dX6_access_5 : decode cX6_access 5 = .ok (.astore 4, 2) := by decide +kernel
theorem dX6_access_7 : decode cX6_access 7 = .ok (.aload 4, 2) := by decide +kernel
theorem dX6_access_9 : decode cX6_access 9 = .ok (.ifnonnull 6, 3) := by decide +kernel
theorem dX6_access_12 : decode cX6_access 12 = .ok (.ldc 104, 2) := by decide +kernel
theorem dX6_access_14 : decode cX6_access 14 = .ok (.ireturn, 1) := by decide +kernel
theorem dX6_access_15 : decode cX6_access 15 = .ok (.aload 4, 2) := by decide +kernel
theorem dX6_access_17 : decode cX6_access 17 = .ok (.invokevirtual 132, 3) := by decide +kernel
theorem dX6_access_20 : decode cX6_access 20 = .ok (.astore 5, 2) := by decide +kernel
theorem dX6_access_22 : decode cX6_access 22 = .ok (.aload 5, 2) := by decide +kernel
theorem dX6_access_24 : decode cX6_access 24 = .ok (.ifnonnull 6, 3) := by decide +kernel
theorem dX6_access_27 : decode cX6_access 27 = .ok (.ldc 119, 2) := by decide +kernel
theorem dX6_access_29 : decode cX6_access 29 = .ok (.ireturn, 1) := by decide +kernel
theorem dX6_access_30 : decode cX6_access 30 = .ok (.aload_n 0, 1) := by decide +kernel
theorem dX6_access_31 : decode cX6_access 31 = .ok (.iload_n 2, 1) := by decide +kernel
theorem dX6_access_32 : decode cX6_access 32 = .ok (.invokevirtual 149, 3) := by decide +kernel
theorem dX6_access_35 : decode cX6_access 35 = .ok (.astore 6, 2) := by decide +kernel
theorem dX6_access_37 : decode cX6_access 37 = .ok (.aload 6, 2) := by decide +kernel
theorem dX6_access_39 : decode cX6_access 39 = .ok (.ifnonnull 6, 3) := by decide +kernel
theorem dX6_access_42 : decode cX6_access 42 = .ok (.ldc 156, 2) := by decide +kernel
theorem dX6_access_44 : decode cX6_access 44 = .ok (.ireturn, 1) := by decide +kernel
theorem dX6_access_45 : decode cX6_access 45 = .ok (.aload 6, 2) := by decide +kernel
theorem dX6_access_47 : decode cX6_access 47 = .ok (.getfield 157, 3) := by decide +kernel
theorem dX6_access_50 : decode cX6_access 50 = .ok (.getfield 126, 3) := by decide +kernel
theorem dX6_access_53 : decode cX6_access 53 = .ok (.aload 5, 2) := by decide +kernel
theorem dX6_access_55 : decode cX6_access 55 = .ok (.getfield 120, 3) := by decide +kernel
theorem dX6_access_58 : decode cX6_access 58 = .ok (.getfield 126, 3) := by decide +kernel
theorem dX6_access_61 : decode cX6_access 61 = .ok (.if_icmp .eq 6, 3) := by decide +kernel
theorem dX6_access_64 : decode cX6_access 64 = .ok (.ldc 188, 2) := by decide +kernel
theorem dX6_access_66 : decode cX6_access 66 = .ok (.ireturn, 1) := by decide +kernel
theorem dX6_access_67 : decode cX6_access 67 = .ok (.aload 5, 2) := by decide +kernel
theorem dX6_access_69 : decode cX6_access 69 = .ok (.getfield 120, 3) := by decide +kernel
theorem dX6_access_72 : decode cX6_access 72 = .ok (.aload 5, 2) := by decide +kernel
theorem dX6_access_74 : decode cX6_access 74 = .ok (.getfield 129, 3) := by decide +kernel
theorem dX6_access_77 : decode cX6_access 77 = .ok (.invokevirtual 46, 3) := by decide +kernel
theorem dX6_access_80 : decode cX6_access 80 = .ok (.iload_n 3, 1) := by decide +kernel
theorem dX6_access_81 : decode cX6_access 81 = .ok (.invokestatic 71, 3) := by decide +kernel
theorem dX6_access_84 : decode cX6_access 84 = .ok (.ifCond .ne 6, 3) := by decide +kernel
theorem dX6_access_87 : decode cX6_access 87 = .ok (.ldc 81, 2) := by decide +kernel
theorem dX6_access_89 : decode cX6_access 89 = .ok (.ireturn, 1) := by decide +kernel
theorem dX6_access_90 : decode cX6_access 90 = .ok (.aload 6, 2) := by decide +kernel
theorem dX6_access_92 : decode cX6_access 92 = .ok (.getfield 158, 3) := by decide +kernel
theorem dX6_access_95 : decode cX6_access 95 = .ok (.aload 5, 2) := by decide +kernel
theorem dX6_access_97 : decode cX6_access 97 = .ok (.getfield 129, 3) := by decide +kernel
theorem dX6_access_100 : decode cX6_access 100 = .ok (.if_icmp .le 6, 3) := by decide +kernel
theorem dX6_access_103 : decode cX6_access 103 = .ok (.ldc 189, 2) := by decide +kernel
theorem dX6_access_105 : decode cX6_access 105 = .ok (.ireturn, 1) := by decide +kernel
theorem dX6_access_106 : decode cX6_access 106 = .ok (.aload 6, 2) := by decide +kernel
theorem dX6_access_108 : decode cX6_access 108 = .ok (.getfield 158, 3) := by decide +kernel
theorem dX6_access_111 : decode cX6_access 111 = .ok (.aload 5, 2) := by decide +kernel
theorem dX6_access_113 : decode cX6_access 113 = .ok (.getfield 129, 3) := by decide +kernel
theorem dX6_access_116 : decode cX6_access 116 = .ok (.if_icmp .ge 35, 3) := by decide +kernel
theorem dX6_access_119 : decode cX6_access 119 = .ok (.aload_n 0, 1) := by decide +kernel
theorem dX6_access_120 : decode cX6_access 120 = .ok (.iload_n 2, 1) := by decide +kernel
theorem dX6_access_121 : decode cX6_access 121 = .ok (.invokevirtual 165, 3) := by decide +kernel
theorem dX6_access_124 : decode cX6_access 124 = .ok (.aload 5, 2) := by decide +kernel
theorem dX6_access_126 : decode cX6_access 126 = .ok (.getfield 129, 3) := by decide +kernel
theorem dX6_access_129 : decode cX6_access 129 = .ok (.if_icmp .ge 6, 3) := by decide +kernel
theorem dX6_access_132 : decode cX6_access 132 = .ok (.ldc 190, 2) := by decide +kernel
theorem dX6_access_134 : decode cX6_access 134 = .ok (.ireturn, 1) := by decide +kernel
theorem dX6_access_135 : decode cX6_access 135 = .ok (.aload 6, 2) := by decide +kernel
theorem dX6_access_137 : decode cX6_access 137 = .ok (.aload 5, 2) := by decide +kernel
theorem dX6_access_139 : decode cX6_access 139 = .ok (.getfield 129, 3) := by decide +kernel
theorem dX6_access_142 : decode cX6_access 142 = .ok (.invokevirtual 173, 3) := by decide +kernel
theorem dX6_access_145 : decode cX6_access 145 = .ok (.ifCond .ne 6, 3) := by decide +kernel
theorem dX6_access_148 : decode cX6_access 148 = .ok (.ldc 191, 2) := by decide +kernel
theorem dX6_access_150 : decode cX6_access 150 = .ok (.ireturn, 1) := by decide +kernel
theorem dX6_access_151 : decode cX6_access 151 = .ok (.aload 5, 2) := by decide +kernel
theorem dX6_access_153 : decode cX6_access 153 = .ok (.iload_n 2, 1) := by decide +kernel
theorem dX6_access_154 : decode cX6_access 154 = .ok (.invokevirtual 142, 3) := by decide +kernel
theorem dX6_access_157 : decode cX6_access 157 = .ok (.aload 6, 2) := by decide +kernel
theorem dX6_access_159 : decode cX6_access 159 = .ok (.iload_n 3, 1) := by decide +kernel
theorem dX6_access_160 : decode cX6_access 160 = .ok (.invokevirtual 159, 3) := by decide +kernel
theorem dX6_access_163 : decode cX6_access 163 = .ok (.ireturn, 1) := by decide +kernel
set_option maxRecDepth 20000 in
theorem ggX6_outdatedObject_X6_existingObject : GoodIn wsX6_outdatedObject wsX6_existingObject := goodIn_r _ [5, 6, 7, 17, 18, 19, 20, 21] (by decide +kernel) (by decide +kernel)
set_option maxRecDepth 20000 in
theorem gX6_outdatedObject_X6_existingObject : GoodIn wsX6_outdatedObject (wsV RX6 149 RX6 yX6_existingObject wsX6_existingObject) := goodIn_app (goodIn_of _ (by decide +kernel)) ggX6_outdatedObject_X6_existingObject
theorem dX6_outdatedObject_0 : decode cX6_outdatedObject 0 = .ok (.aload_n 0, 1) := by decide +kernel
theorem dX6_outdatedObject_1 : decode cX6_outdatedObject 1 = .ok (.iload_n 1, 1) := by decide +kernel
theorem dX6_outdatedObject_2 : decode cX6_outdatedObject 2 = .ok (.invokevirtual 149, 3) := by decide +kernel
theorem dX6_outdatedObject_5 : decode cX6_outdatedObject 5 = .ok (.astore_n 3, 1) := by decide +kernel
theorem dX6_outdatedObject_6 : decode cX6_outdatedObject 6 = .ok (.aload_n 3, 1) := by decide +kernel
theorem dX6_outdatedObject_7 : decode cX6_outdatedObject 7 = .ok (.ifnull 28, 3) := by decide +kernel
theorem dX6_outdatedObject_10 : decode cX6_outdatedObject 10 = .ok (.aload_n 3, 1) := by decide +kernel
theorem dX6_outdatedObject_11 : decode cX6_outdatedObject 11 = .ok (.getfield 157, 3) := by decide +kernel
theorem dX6_outdatedObject_14 : decode cX6_outdatedObject 14 = .ok (.getfield 126, 3) := by decide +kernel
theorem dX6_outdatedObject_17 : decode cX6_outdatedObject 17 = .ok (.aload_n 2, 1) := by decide +kernel
theorem dX6_outdatedObject_18 : decode cX6_outdatedObject 18 = .ok (.getfield 126, 3) := by decide +kernel
theorem dX6_outdatedObject_21 : decode cX6_outdatedObject 21 = .ok (.if_icmp .ne 14, 3) := by decide +kernel
theorem dX6_outdatedObject_24 : decode cX6_outdatedObject 24 = .ok (.aload_n 3, 1) := by decide +kernel
theorem dX6_outdatedObject_25 : decode cX6_outdatedObject 25 = .ok (.getfield 158, 3) := by decide +kernel
theorem dX6_outdatedObject_28 : decode cX6_outdatedObject 28 = .ok (.aload_n 2, 1) := by decide +kernel
theorem dX6_outdatedObject_29 : decode cX6_outdatedObject 29 = .ok (.getfield 42, 3) := by decide +kernel
theorem dX6_outdatedObject_32 : decode cX6_outdatedObject 32 = .ok (.if_icmp .ne 5, 3) := by decide +kernel
theorem dX6_outdatedObject_35 : decode cX6_outdatedObject 35 = .ok (.aconst_null, 1) := by decide +kernel
theorem dX6_outdatedObject_36 : decode cX6_outdatedObject 36 = .ok (.areturn, 1) := by decide +kernel
theorem dX6_outdatedObject_37 : decode cX6_outdatedObject 37 = .ok (.aload_n 3, 1) := by decide +kernel
theorem dX6_outdatedObject_38 : decode cX6_outdatedObject 38 = .ok (.areturn, 1) := by decide +kernel
set_option maxRecDepth 20000 in
theorem ggX6_rollBackObjects_X5_revert : GoodIn wsX6_rollBackObjects wsX5_revert := goodIn_r _ [7, 8, 9, 15, 16, 17, 18] (by decide +kernel) (by decide +kernel)
set_option maxRecDepth 20000 in
theorem gX6_rollBackObjects_X5_revert : GoodIn wsX6_rollBackObjects (wsV RX6 192 RX5 yX5_revert wsX5_revert) := goodIn_app (goodIn_of _ (by decide +kernel)) ggX6_rollBackObjects_X5_revert
theorem dX6_rollBackObjects_0 : decode cX6_rollBackObjects 0 = .ok (.iconst 0, 1) := by decide +kernel
theorem dX6_rollBackObjects_1 : decode cX6_rollBackObjects 1 = .ok (.istore_n 3, 1) := by decide +kernel
theorem dX6_rollBackObjects_2 : decode cX6_rollBackObjects 2 = .ok (.iload_n 3, 1) := by decide +kernel
theorem dX6_rollBackObjects_3 : decode cX6_rollBackObjects 3 = .ok (.aload_n 0, 1) := by decide +kernel
theorem dX6_rollBackObjects_4 : decode cX6_rollBackObjects 4 = .ok (.getfield 136, 3) := by decide +kernel
theorem dX6_rollBackObjects_7 : decode cX6_rollBackObjects 7 = .ok (.if_icmp .ge 70, 3) := by decide +kernel
theorem dX6_rollBackObjects_10 : decode cX6_rollBackObjects 10 = .ok (.aload_n 0, 1) := by decide +kernel
theorem dX6_rollBackObjects_11 : decode cX6_rollBackObjects 11 = .ok (.getfield 24, 3) := by decide +kernel
theorem dX6_rollBackObjects_14 : decode cX6_rollBackObjects 14 = .ok (.iload_n 3, 1) := by decide +kernel
theorem dX6_rollBackObjects_15 : decode cX6_rollBackObjects 15 = .ok (.aaload, 1) := by decide +kernel
theorem dX6_rollBackObjects_16 : decode cX6_rollBackObjects 16 = .ok (.astore 4, 2) := by decide +kernel
theorem dX6_rollBackObjects_18 : decode cX6_rollBackObjects 18 = .ok (.aload 4, 2) := by decide +kernel
theorem dX6_rollBackObjects_20 : decode cX6_rollBackObjects 20 = .ok (.ifnull 51, 3) := by decide +kernel
theorem dX6_rollBackObjects_23 : decode cX6_rollBackObjects 23 = .ok (.aload 4, 2) := by decide +kernel
theorem dX6_rollBackObjects_25 : decode cX6_rollBackObjects 25 = .ok (.getfield 157, 3) := by decide +kernel
theorem dX6_rollBackObjects_28 : decode cX6_rollBackObjects 28 = .ok (.getfield 126, 3) := by decide +kernel
theorem dX6_rollBackObjects_31 : decode cX6_rollBackObjects 31 = .ok (.iload_n 1, 1) := by decide +kernel
theorem dX6_rollBackObjects_32 : decode cX6_rollBackObjects 32 = .ok (.if_icmp .ne 39, 3) := by decide +kernel
theorem dX6_rollBackObjects_35 : decode cX6_rollBackObjects 35 = .ok (.aload 4, 2) := by decide +kernel
theorem dX6_rollBackObjects_37 : decode cX6_rollBackObjects 37 = .ok (.getfield 158, 3) := by decide +kernel
theorem dX6_rollBackObjects_40 : decode cX6_rollBackObjects 40 = .ok (.iload_n 2, 1) := by decide +kernel
theorem dX6_rollBackObjects_41 : decode cX6_rollBackObjects 41 = .ok (.if_icmp .eq 6, 3) := by decide +kernel
theorem dX6_rollBackObjects_44 : decode cX6_rollBackObjects 44 = .ok (.goto 27, 3) := by decide +kernel
theorem dX6_rollBackObjects_47 : decode cX6_rollBackObjects 47 = .ok (.aload 4, 2) := by decide +kernel
theorem dX6_rollBackObjects_49 : decode cX6_rollBackObjects 49 = .ok (.getfield 162, 3) := by decide +kernel
theorem dX6_rollBackObjects_52 : decode cX6_rollBackObjects 52 = .ok (.iload_n 2, 1) := by decide +kernel
theorem dX6_rollBackObjects_53 : decode cX6_rollBackObjects 53 = .ok (.if_icmp .ne 13, 3) := by decide +kernel
theorem dX6_rollBackObjects_56 : decode cX6_rollBackObjects 56 = .ok (.aload_n 0, 1) := by decide +kernel
theorem dX6_rollBackObjects_57 : decode cX6_rollBackObjects 57 = .ok (.getfield 24, 3) := by decide +kernel
theorem dX6_rollBackObjects_60 : decode cX6_rollBackObjects 60 = .ok (.iload_n 3, 1) := by decide +kernel
theorem dX6_rollBackObjects_61 : decode cX6_rollBackObjects 61 = .ok (.aconst_null, 1) := by decide +kernel
theorem dX6_rollBackObjects_62 : decode cX6_rollBackObjects 62 = .ok (.aastore, 1) := by decide +kernel
theorem dX6_rollBackObjects_63 : decode cX6_rollBackObjects 63 = .ok (.goto 8, 3) := by decide +kernel
theorem dX6_rollBackObjects_66 : decode cX6_rollBackObjects 66 = .ok (.aload 4, 2) := by decide +kernel
theorem dX6_rollBackObjects_68 : decode cX6_rollBackObjects 68 = .ok (.invokevirtual 192, 3) := by decide +kernel
theorem dX6_rollBackObjects_71 : decode cX6_rollBackObjects 71 = .ok (.iinc 3 1, 3) := by decide +kernel
theorem dX6_rollBackObjects_74 : decode cX6_rollBackObjects 74 = .ok (.goto (-72), 3) := by decide +kernel
theorem dX6_rollBackObjects_77 : decode cX6_rollBackObjects 77 = .ok (.return_, 1) := by decide +kernel
end
section
theorem dX7_init_0 : decode cX7_init 0 = .ok (.aload_n 0, 1) := by decide +kernel
theorem dX7_init_1 : decode cX7_init 1 = .ok (.invokespecial 1, 3) := by decide +kernel
theorem dX7_init_4 : decode cX7_init 4 = .ok (.aload_n 0, 1) := by decide +kernel
theorem dX7_init_5 : decode cX7_init 5 = .ok (.sipush 972, 3) := by decide +kernel
theorem dX7_init_8 : decode cX7_init 8 = .ok (.newarray .int, 2) := by decide +kernel
theorem dX7_init_10 : decode cX7_init 10 = .ok (.putfield 7, 3) := by decide +kernel
theorem dX7_init_13 : decode cX7_init 13 = .ok (.aload_n 0, 1) := by decide +kernel
theorem dX7_init_14 : decode cX7_init 14 = .ok (.iconst 4, 1) := by decide +kernel
theorem dX7_init_15 : decode cX7_init 15 = .ok (.newarray .int, 2) := by decide +kernel
theorem dX7_init_17 : decode cX7_init 17 = .ok (.putfield 13, 3) := by decide +kernel
theorem dX7_init_20 : decode cX7_init 20 = .ok (.aload_n 0, 1) := by decide +kernel
theorem dX7_init_21 : decode cX7_init 21 = .ok (.bipush 32, 2) := by decide +kernel
theorem dX7_init_23 : decode cX7_init 23 = .ok (.newarray .int, 2) := by decide +kernel
theorem dX7_init_25 : decode cX7_init 25 = .ok (.putfield 16, 3) := by decide +kernel
theorem dX7_init_28 : decode cX7_init 28 = .ok (.aload_n 0, 1) := by decide +kernel
theorem dX7_init_29 : decode cX7_init 29 = .ok (.bipush 32, 2) := by decide +kernel
theorem dX7_init_31 : decode cX7_init 31 = .ok (.newarray .int, 2) := by decide +kernel
theorem dX7_init_33 : decode cX7_init 33 = .ok (.putfield 19, 3) := by decide +kernel
theorem dX7_init_36 : decode cX7_init 36 = .ok (.aload_n 0, 1) := by decide +kernel
theorem dX7_init_37 : decode cX7_init 37 = .ok (.bipush 32, 2) := by decide +kernel
theorem dX7_init_39 : decode cX7_init 39 = .ok (.newarray .int, 2) := by decide +kernel
theorem dX7_init_41 : decode cX7_init 41 = .ok (.putfield 22, 3) := by decide +kernel
theorem dX7_init_44 : decode cX7_init 44 = .ok (.aload_n 0, 1) := by decide +kernel
theorem dX7_init_45 : decode cX7_init 45 = .ok (.bipush 24, 2) := by decide +kernel
theorem dX7_init_47 : decode cX7_init 47 = .ok (.newarray .boolean, 2) := by decide +kernel
theorem dX7_init_49 : decode cX7_init 49 = .ok (.putfield 25, 3) := by decide +kernel
theorem dX7_init_52 : decode cX7_init 52 = .ok (.aload_n 0, 1) := by decide +kernel
theorem dX7_init_53 : decode cX7_init 53 = .ok (.bipush 24, 2) := by decide +kernel
theorem dX7_init_55 : decode cX7_init 55 = .ok (.newarray .int, 2) := by decide +kernel
theorem dX7_init_57 : decode cX7_init 57 = .ok (.putfield 29, 3) := by decide +kernel
theorem dX7_init_60 : decode cX7_init 60 = .ok (.aload_n 0, 1) := by decide +kernel
theorem dX7_init_61 : decode cX7_init 61 = .ok (.bipush 24, 2) := by decide +kernel
theorem dX7_init_63 : decode cX7_init 63 = .ok (.newarray .int, 2) := by decide +kernel
theorem dX7_init_65 : decode cX7_init 65 = .ok (.putfield 32, 3) := by decide +kernel
theorem dX7_init_68 : decode cX7_init 68 = .ok (.aload_n 0, 1) := by decide +kernel
theorem dX7_init_69 : decode cX7_init 69 = .ok (.bipush 24, 2) := by decide +kernel
theorem dX7_init_71 : decode cX7_init 71 = .ok (.newarray .int, 2) := by decide +kernel
theorem dX7_init_73 : decode cX7_init 73 = .ok (.putfield 35, 3) := by decide +kernel
theorem dX7_init_76 : decode cX7_init 76 = .ok (.aload_n 0, 1) := by decide +kernel
theorem dX7_init_77 : decode cX7_init 77 = .ok (.sipush 1536, 3) := by decide +kernel
theorem dX7_init_80 : decode cX7_init 80 = .ok (.newarray .int, 2) := by decide +kernel
theorem dX7_init_82 : decode cX7_init 82 = .ok (.putfield 38, 3) := by decide +kernel
theorem dX7_init_85 : decode cX7_init 85 = .ok (.return_, 1) := by decide +kernel
theorem dX7_in_0 : decode cX7_in 0 = .ok (.iload_n 0, 1) := by decide +kernel
theorem dX7_in_1 : decode cX7_in 1 = .ok (.iload_n 1, 1) := by decide +kernel
theorem dX7_in_2 : decode cX7_in 2 = .ok (.if_icmp .lt 12, 3) := by decide +kernel
theorem dX7_in_5 : decode cX7_in 5 = .ok (.iload_n 0, 1) := by decide +kernel
theorem dX7_in_6 : decode cX7_in 6 = .ok (.iload_n 2, 1) := by decide +kernel
theorem dX7_in_7 : decode cX7_in 7 = .ok (.if_icmp .gt 7, 3) := by decide +kernel
theorem dX7_in_10 : decode cX7_in 10 = .ok (.iconst 1, 1) := by decide +kernel
theorem dX7_in_11 : decode cX7_in 11 = .ok (.goto 4, 3) := by decide +kernel
theorem dX7_in_14 : decode cX7_in 14 = .ok (.iconst 0, 1) := by decide +kernel
theorem dX7_in_15 : decode cX7_in 15 = .ok (.ireturn, 1) := by decide +kernel
set_option maxRecDepth 20000 in
theorem ggX7_isClass_X7_in : GoodIn wsX7_isClass wsX7_in := goodIn_r _ [5] (by decide +kernel) (by decide +kernel)
set_option maxRecDepth 20000 in
theorem gX7_isClass_X7_in : GoodIn wsX7_isClass (va_wsS RX7 45 yX7_in wsX7_in) := goodIn_app (goodIn_of _ (by decide +kernel)) ggX7_isClass_X7_in
theorem dX7_isClass_0 : decode cX7_isClass 0 = .ok (.iload_n 1, 1) := by decide +kernel
theorem dX7_isClass_1 : decode cX7_isClass 1 = .ok (.iconst 0, 1) := by decide +kernel
theorem dX7_isClass_2 : decode cX7_isClass 2 = .ok (.aload_n 0, 1) := by decide +kernel
theorem dX7_isClass_3 : decode cX7_isClass 3 = .ok (.getfield 41, 3) := by decide +kernel
theorem dX7_isClass_6 : decode cX7_isClass 6 = .ok (.iconst 1, 1) := by decide +kernel
theorem dX7_isClass_7 : decode cX7_isClass 7 = .ok (.isub, 1) := by decide +kernel
theorem dX7_isClass_8 : decode cX7_isClass 8 = .ok (.invokestatic 45, 3) := by decide +kernel
theorem dX7_isClass_11 : decode cX7_isClass 11 = .ok (.ireturn, 1) := by decide +kernel
theorem dX7_at_0 : decode cX7_at 0 = .ok (.sipush 162, 3) := by decide +kernel
theorem dX7_at_3 : decode cX7_at 3 = .ok (.iload_n 0, 1) := by decide +kernel
theorem dX7_at_4 : decode cX7_at 4 = .ok (.imul, 1) := by decide +kernel
theorem dX7_at_5 : decode cX7_at 5 = .ok (.iload_n 1, 1) := by decide +kernel
theorem dX7_at_6 : decode cX7_at 6 = .ok (.iadd, 1) := by decide +kernel
theorem dX7_at_7 : decode cX7_at 7 = .ok (.ireturn, 1) := by decide +kernel
set_option maxRecDepth 20000 in
theorem ggX7_of_X7_at : GoodIn wsX7_of wsX7_at := goodIn_r _ [5] (by decide +kernel) (by decide +kernel)
set_option maxRecDepth 20000 in
theorem gX7_of_X7_at : GoodIn wsX7_of (va_wsS RX7 49 yX7_at wsX7_at) := goodIn_app (goodIn_of _ (by decide +kernel)) ggX7_of_X7_at
theorem dX7_of_0 : decode cX7_of 0 = .ok (.aload_n 0, 1) := by decide +kernel
theorem dX7_of_1 : decode cX7_of 1 = .ok (.getfield 7, 3) := by decide +kernel
theorem dX7_of_4 : decode cX7_of 4 = .ok (.iload_n 1, 1) := by decide +kernel
theorem dX7_of_5 : decode cX7_of 5 = .ok (.iload_n 2, 1) := by decide +kernel
theorem dX7_of_6 : decode cX7_of 6 = .ok (.invokestatic 49, 3) := by decide +kernel
theorem dX7_of_9 : decode cX7_of 9 = .ok (.iaload, 1) := by decide +kernel
theorem dX7_of_10 : decode cX7_of 10 = .ok (.ireturn, 1) := by decide +kernel
set_option maxRecDepth 20000 in
theorem ggX7_current_X7_of : GoodIn wsX7_current wsX7_of := goodIn_r _ [5, 6, 7, 8, 4, 9, 10, 11, 12, 13, 14, 15, 16, 17, 18, 19, 20, 21] (by decide +kernel) (by decide +kernel)
set_option maxRecDepth 20000 in
theorem gX7_current_X7_of : GoodIn wsX7_current (wsV RX7 53 RX7 yX7_of wsX7_of) := goodIn_app (goodIn_of _ (by decide +kernel)) ggX7_current_X7_of
theorem dX7_current_0 : decode cX7_current 0 = .ok (.aload_n 0, 1) := by decide +kernel
theorem dX7_current_1 : decode cX7_current 1 = .ok (.iload_n 1, 1) := by decide +kernel
theorem dX7_current_2 : decode cX7_current 2 = .ok (.iconst 0, 1) := by decide +kernel
theorem dX7_current_3 : decode cX7_current 3 = .ok (.invokevirtual 53, 3) := by decide +kernel
theorem dX7_current_6 : decode cX7_current 6 = .ok (.iconst 1, 1) := by decide +kernel
theorem dX7_current_7 : decode cX7_current 7 = .ok (.isub, 1) := by decide +kernel
theorem dX7_current_8 : decode cX7_current 8 = .ok (.ireturn, 1) := by decide +kernel
set_option maxRecDepth 20000 in
theorem ggX7_addClass_X7_in : GoodIn wsX7_addClass wsX7_in := goodIn_r _ [8] (by decide +kernel) (by decide +kernel)
set_option maxRecDepth 20000 in
theorem gX7_addClass_X7_in : GoodIn wsX7_addClass (va_wsS RX7 45 yX7_in wsX7_in) := goodIn_app (goodIn_of _ (by decide +kernel)) ggX7_addClass_X7_in
set_option maxRecDepth 20000 in
theorem ggX7_addClass_X7_at : GoodIn wsX7_addClass wsX7_at := goodIn_r _ [11] (by decide +kernel) (by decide +kernel)
set_option maxRecDepth 20000 in
theorem gX7_addClass_X7_at : GoodIn wsX7_addClass (va_wsS RX7 49 yX7_at wsX7_at) := goodIn_app (goodIn_of _ (by decide +kernel)) ggX7_addClass_X7_at
theorem dX7_addClass_0 : decode cX7_addClass 0 = .ok (.iload_n 1, 1) := by decide +kernel
theorem dX7_addClass_1 : decode cX7_addClass 1 = .ok (.iconst 0, 1) := by decide +kernel
theorem dX7_addClass_2 : decode cX7_addClass 2 = .ok (.sipush 255, 3) := by decide +kernel
theorem dX7_addClass_5 : decode cX7_addClass 5 = .ok (.invokestatic 45, 3) := by decide +kernel
theorem dX7_addClass_8 : decode cX7_addClass 8 = .ok (.ifCond .ne 6, 3) := by decide +kernel
theorem dX7_addClass_11 : decode cX7_addClass 11 = .ok (.ldc 56, 2) := by decide +kernel
theorem dX7_addClass_13 : decode cX7_addClass 13 = .ok (.ireturn, 1) := by decide +kernel
theorem dX7_addClass_14 : decode cX7_addClass 14 = .ok (.aload_n 0, 1) := by decide +kernel
theorem dX7_addClass_15 : decode cX7_addClass 15 = .ok (.getfield 41, 3) := by decide +kernel
theorem dX7_addClass_18 : decode cX7_addClass 18 = .ok (.bipush 6, 2) := by decide +kernel
theorem dX7_addClass_20 : decode cX7_addClass 20 = .ok (.if_icmp .ne 6, 3) := by decide +kernel
theorem dX7_addClass_23 : decode cX7_addClass 23 = .ok (.ldc 57, 2) := by decide +kernel
theorem dX7_addClass_25 : decode cX7_addClass 25 = .ok (.ireturn, 1) := by decide +kernel
theorem dX7_addClass_26 : decode cX7_addClass 26 = .ok (.aload_n 0, 1) := by decide +kernel
theorem dX7_addClass_27 : decode cX7_addClass 27 = .ok (.getfield 7, 3) := by decide +kernel
theorem dX7_addClass_30 : decode cX7_addClass 30 = .ok (.aload_n 0, 1) := by decide +kernel
theorem dX7_addClass_31 : decode cX7_addClass 31 = .ok (.getfield 41, 3) := by decide +kernel
theorem dX7_addClass_34 : decode cX7_addClass 34 = .ok (.iconst 0, 1) := by decide +kernel
theorem dX7_addClass_35 : decode cX7_addClass 35 = .ok (.invokestatic 49, 3) := by decide +kernel
theorem dX7_addClass_38 : decode cX7_addClass 38 = .ok (.iconst 1, 1) := by decide +kernel
theorem dX7_addClass_39 : decode cX7_addClass 39 = .ok (.iastore, 1) := by decide +kernel
theorem dX7_addClass_40 : decode cX7_addClass 40 = .ok (.aload_n 0, 1) := by decide +kernel
theorem dX7_addClass_41 : decode cX7_addClass 41 = .ok (.getfield 7, 3) := by decide +kernel
theorem dX7_addClass_44 : decode cX7_addClass 44 = .ok (.aload_n 0, 1) := by decide +kernel
theorem dX7_addClass_45 : decode cX7_addClass 45 = .ok (.getfield 41, 3) := by decide +kernel
theorem dX7_addClass_48 : decode cX7_addClass 48 = .ok (.iconst 2, 1) := by decide +kernel
theorem dX7_addClass_49 : decode cX7_addClass 49 = .ok (.invokestatic 49, 3) := by decide +kernel
theorem dX7_addClass_52 : decode cX7_addClass 52 = .ok (.iload_n 1, 1) := by decide +kernel
theorem dX7_addClass_53 : decode cX7_addClass 53 = .ok (.iastore, 1) := by decide +kernel
theorem dX7_addClass_54 : decode cX7_addClass 54 = .ok (.aload_n 0, 1) := by decide +kernel
theorem dX7_addClass_55 : decode cX7_addClass 55 = .ok (.dup, 1) := by decide +kernel
theorem dX7_addClass_56 : decode cX7_addClass 56 = .ok (.getfield 41, 3) := by decide +kernel
theorem dX7_addClass_59 : decode cX7_addClass 59 = .ok (.iconst 1, 1) := by decide +kernel
theorem dX7_addClass_60 : decode cX7_addClass 60 = .ok (.iadd, 1) := by decide +kernel
theorem dX7_addClass_61 : decode cX7_addClass 61 = .ok (.putfield 41, 3) := by decide +kernel
theorem dX7_addClass_64 : decode cX7_addClass 64 = .ok (.aload_n 0, 1) := by decide +kernel
theorem dX7_addClass_65 : decode cX7_addClass 65 = .ok (.getfield 41, 3) := by decide +kernel
theorem dX7_addClass_68 : decode cX7_addClass 68 = .ok (.iconst 1, 1) := by decide +kernel
theorem dX7_addClass_69 : decode cX7_addClass 69 = .ok (.isub, 1) := by decide +kernel
theorem dX7_addClass_70 : decode cX7_addClass 70 = .ok (.ireturn, 1) := by decide +kernel
set_option maxRecDepth 20000 in
theorem ggX7_currentVersion_X7_isClass : GoodIn wsX7_currentVersion wsX7_isClass := goodIn_r _ [6, 7, 8, 9, 5, 10, 23, 24, 25, 26, 27, 28, 29, 30, 31, 32, 33, 34] (by decide +kernel) (by decide +kernel)
set_option maxRecDepth 20000 in
theorem gX7_currentVersion_X7_isClass : GoodIn wsX7_currentVersion (wsV RX7 58 RX7 yX7_isClass wsX7_isClass) := goodIn_app (goodIn_of _ (by decide +kernel)) ggX7_currentVersion_X7_isClass
set_option maxRecDepth 20000 in
theorem ggX7_currentVersion_X7_current : GoodIn wsX7_currentVersion wsX7_current := goodIn_r _ [14, 15, 16, 17, 5, 18, 19, 20, 21, 22, 23, 24, 25, 26, 27, 28, 29, 30, 31, 32, 33, 34] (by decide +kernel) (by decide +kernel)
set_option maxRecDepth 20000 in
theorem gX7_currentVersion_X7_current : GoodIn wsX7_currentVersion (wsV RX7 62 RX7 yX7_current wsX7_current) := goodIn_app (goodIn_of _ (by decide +kernel)) ggX7_currentVersion_X7_current
theorem dX7_currentVersion_0 : decode cX7_currentVersion 0 = .ok (.aload_n 0, 1) := by decide +kernel
theorem dX7_currentVersion_1 : decode cX7_currentVersion 1 = .ok (.iload_n 1, 1) := by decide +kernel
theorem dX7_currentVersion_2 : decode cX7_currentVersion 2 = .ok (.invokevirtual 58, 3) := by decide +kernel
theorem dX7_currentVersion_5 : decode cX7_currentVersion 5 = .ok (.ifCond .eq 11, 3) := by decide +kernel
theorem dX7_currentVersion_8 : decode cX7_currentVersion 8 = .ok (.aload_n 0, 1) := by decide +kernel
theorem dX7_currentVersion_9 : decode cX7_currentVersion 9 = .ok (.iload_n 1, 1) := by decide +kernel
theorem dX7_currentVersion_10 : decode cX7_currentVersion 10 = .ok (.invokevirtual 62, 3) := by decide +kernel
theorem dX7_currentVersion_13 : decode cX7_currentVersion 13 = .ok (.goto 5, 3) := by decide +kernel
theorem dX7_currentVersion_16 : decode cX7_currentVersion 16 = .ok (.ldc 66, 2) := by decide +kernel
theorem dX7_currentVersion_18 : decode cX7_currentVersion 18 = .ok (.ireturn, 1) := by decide +kernel
set_option maxRecDepth 20000 in
theorem ggX7_fields_X7_isClass : GoodIn wsX7_fields wsX7_isClass := goodIn_r _ [7, 8, 9, 10, 6, 11, 24, 25, 26, 27, 28, 29, 30, 31, 32, 33, 34, 35] (by decide +kernel) (by decide +kernel)
set_option maxRecDepth 20000 in
theorem gX7_fields_X7_isClass : GoodIn wsX7_fields (wsV RX7 58 RX7 yX7_isClass wsX7_isClass) := goodIn_app (goodIn_of _ (by decide +kernel)) ggX7_fields_X7_isClass
set_option maxRecDepth 20000 in
theorem ggX7_fields_X7_current : GoodIn wsX7_fields wsX7_current := goodIn_r _ [15, 16, 17, 18, 6, 19, 20, 21, 22, 23, 24, 25, 26, 27, 28, 29, 30, 31, 32, 33, 34, 35] (by decide +kernel) (by decide +kernel)
set_option maxRecDepth 20000 in
theorem gX7_fields_X7_current : GoodIn wsX7_fields (wsV RX7 62 RX7 yX7_current wsX7_current) := goodIn_app (goodIn_of _ (by decide +kernel)) ggX7_fields_X7_current
set_option maxRecDepth 20000 in
theorem ggX7_fields_X7_in : GoodIn wsX7_fields wsX7_in := goodIn_r _ [11] (by decide +kernel) (by decide +kernel)
set_option maxRecDepth 20000 in
theorem gX7_fields_X7_in : GoodIn wsX7_fields (va_wsS RX7 45 yX7_in wsX7_in) := goodIn_app (goodIn_of _ (by decide +kernel)) ggX7_fields_X7_in
set_option maxRecDepth 20000 in
theorem ggX7_fields_X7_of : GoodIn wsX7_fields wsX7_of := goodIn_r _ [19, 20, 21, 22, 6, 23, 24, 25, 26, 27, 28, 29, 30, 31, 32, 33, 34, 35] (by decide +kernel) (by decide +kernel)
set_option maxRecDepth 20000 in
theorem gX7_fields_X7_of : GoodIn wsX7_fields (wsV RX7 53 RX7 yX7_of wsX7_of) := goodIn_app (goodIn_of _ (by decide +kernel)) ggX7_fields_X7_of
theorem dX7_fields_0 : decode cX7_fields 0 = .ok (.aload_n 0, 1) := by decide +kernel
theorem dX7_fields_1 : decode cX7_fields 1 = .ok (.iload_n 1, 1) := by decide +kernel
theorem dX7_fields_2 : decode cX7_fields 2 = .ok (.invokevirtual 58, 3) := by decide +kernel
theorem dX7_fields_5 : decode cX7_fields 5 = .ok (.ifCond .ne 6, 3) := by decide +kernel
theorem dX7_fields_8 : decode cX7_fields 8 = .ok (.ldc 66, 2) := by decide +kernel
theorem dX7_fields_10 : decode cX7_fields 10 = .ok (.ireturn, 1) := by decide +kernel
theorem dX7_fields_11 : decode cX7_fields 11 = .ok (.iload_n 2, 1) := by decide +kernel
theorem dX7_fields_12 : decode cX7_fields 12 = .ok (.iconst 0, 1) := by decide +kernel
theorem dX7_fields_13 : decode cX7_fields 13 = .ok (.aload_n 0, 1) := by decide +kernel
theorem dX7_fields_14 : decode cX7_fields 14 = .ok (.iload_n 1, 1) := by decide +kernel
theorem dX7_fields_15 : decode cX7_fields 15 = .ok (.invokevirtual 62, 3) := by decide +kernel
theorem dX7_fields_18 : decode cX7_fields 18 = .ok (.invokestatic 45, 3) := by decide +kernel
theorem dX7_fields_21 : decode cX7_fields 21 = .ok (.ifCond .eq 14, 3) := by decide +kernel
theorem dX7_fields_24 : decode cX7_fields 24 = .ok (.aload_n 0, 1) := by decide +kernel
theorem dX7_fields_25 : decode cX7_fields 25 = .ok (.iload_n 1, 1) := by decide +kernel
theorem dX7_fields_26 : decode cX7_fields 26 = .ok (.iconst 2, 1) := by decide +kernel
theorem dX7_fields_27 : decode cX7_fields 27 = .ok (.iload_n 2, 1) := by decide +kernel
theorem dX7_fields_28 : decode cX7_fields 28 = .ok (.iadd, 1) := by decide +kernel
theorem dX7_fields_29 : decode cX7_fields 29 = .ok (.invokevirtual 53, 3) := by decide +kernel
theorem dX7_fields_32 : decode cX7_fields 32 = .ok (.goto 5, 3) := by decide +kernel
theorem dX7_fields_35 : decode cX7_fields 35 = .ok (.ldc 67, 2) := by decide +kernel
theorem dX7_fields_37 : decode cX7_fields 37 = .ok (.ireturn, 1) := by decide +kernel
set_option maxRecDepth 20000 in
theorem ggX7_stage_X7_isClass : GoodIn wsX7_stage wsX7_isClass := goodIn_r _ [9, 10, 11, 12, 8, 13, 21, 22, 23, 24, 25, 26, 27, 28, 29, 30, 31, 32] (by decide +kernel) (by decide +kernel)
set_option maxRecDepth 20000 in
theorem gX7_stage_X7_isClass : GoodIn wsX7_stage (wsV RX7 58 RX7 yX7_isClass wsX7_isClass) := goodIn_app (goodIn_of _ (by decide +kernel)) ggX7_stage_X7_isClass
set_option maxRecDepth 20000 in
theorem ggX7_stage_X7_of : GoodIn wsX7_stage wsX7_of := goodIn_r _ [17, 4, 18, 19, 8, 20, 21, 22, 23, 24, 25, 26, 27, 28, 29, 30, 31, 32] (by decide +kernel) (by decide +kernel)
set_option maxRecDepth 20000 in
theorem gX7_stage_X7_of : GoodIn wsX7_stage (wsV RX7 53 RX7 yX7_of wsX7_of) := goodIn_app (goodIn_of _ (by decide +kernel)) ggX7_stage_X7_of
set_option maxRecDepth 20000 in
theorem ggX7_stage_X7_at : GoodIn wsX7_stage wsX7_at := goodIn_r _ [20] (by decide +kernel) (by decide +kernel)
set_option maxRecDepth 20000 in
theorem gX7_stage_X7_at : GoodIn wsX7_stage (va_wsS RX7 49 yX7_at wsX7_at) := goodIn_app (goodIn_of _ (by decide +kernel)) ggX7_stage_X7_at
theorem dX7_stage_0 : decode cX7_stage 0 = .ok (.aload_n 0, 1) := by decide +kernel
theorem dX7_stage_1 : decode cX7_stage 1 = .ok (.iload_n 1, 1) := by decide +kernel
theorem dX7_stage_2 : decode cX7_stage 2 = .ok (.invokevirtual 58, 3) := by decide +kernel
theorem dX7_stage_5 : decode cX7_stage 5 = .ok (.ifCond .ne 6, 3) := by decide +kernel
theorem dX7_stage_8 : decode cX7_stage 8 = .ok (.ldc 66, 2) := by decide +kernel
theorem dX7_stage_10 : decode cX7_stage 10 = .ok (.ireturn, 1) := by decide +kernel
theorem dX7_stage_11 : decode cX7_stage 11 = .ok (.aload_n 0, 1) := by decide +kernel
theorem dX7_stage_12 : decode cX7_stage 12 = .ok (.iload_n 1, 1) := by decide +kernel
theorem dX7_stage_13 : decode cX7_stage 13 = .ok (.iconst 1, 1) := by decide +kernel
theorem dX7_stage_14 : decode cX7_stage 14 = .ok (.invokevirtual 53, 3) := by decide +kernel
theorem dX7_stage_17 : decode cX7_stage 17 = .ok (.iconst 1, 1) := by decide +kernel
theorem dX7_stage_18 : decode cX7_stage 18 = .ok (.if_icmp .ne 6, 3) := by decide +kernel
theorem dX7_stage_21 : decode cX7_stage 21 = .ok (.ldc 68, 2) := by decide +kernel
theorem dX7_stage_23 : decode cX7_stage 23 = .ok (.ireturn, 1) := by decide +kernel
theorem dX7_stage_24 : decode cX7_stage 24 = .ok (.aload_n 0, 1) := by decide +kernel
theorem dX7_stage_25 : decode cX7_stage 25 = .ok (.iload_n 1, 1) := by decide +kernel
theorem dX7_stage_26 : decode cX7_stage 26 = .ok (.iconst 0, 1) := by decide +kernel
theorem dX7_stage_27 : decode cX7_stage 27 = .ok (.invokevirtual 53, 3) := by decide +kernel
theorem dX7_stage_30 : decode cX7_stage 30 = .ok (.istore_n 2, 1) := by decide +kernel
theorem dX7_stage_31 : decode cX7_stage 31 = .ok (.iload_n 2, 1) := by decide +kernel
theorem dX7_stage_32 : decode cX7_stage 32 = .ok (.bipush 8, 2) := by decide +kernel
theorem dX7_stage_34 : decode cX7_stage 34 = .ok (.if_icmp .ne 6, 3) := by decide +kernel
theorem dX7_stage_37 : decode cX7_stage 37 = .ok (.ldc 57, 2) := by decide +kernel
theorem dX7_stage_39 : decode cX7_stage 39 = .ok (.ireturn, 1) := by decide +kernel
theorem dX7_stage_40 : decode cX7_stage 40 = .ok (.aload_n 0, 1) := by decide +kernel
theorem dX7_stage_41 : decode cX7_stage 41 = .ok (.getfield 7, 3) := by decide +kernel
theorem dX7_stage_44 : decode cX7_stage 44 = .ok (.iload_n 1, 1) := by decide +kernel
theorem dX7_stage_45 : decode cX7_stage 45 = .ok (.iconst 1, 1) := by decide +kernel
theorem dX7_stage_46 : decode cX7_stage 46 = .ok (.invokestatic 49, 3) := by decide +kernel
theorem dX7_stage_49 : decode cX7_stage 49 = .ok (.iconst 1, 1) := by decide +kernel
theorem dX7_stage_50 : decode cX7_stage 50 = .ok (.iastore, 1) := by decide +kernel
theorem dX7_stage_51 : decode cX7_stage 51 = .ok (.aload_n 0, 1) := by decide +kernel
theorem dX7_stage_52 : decode cX7_stage 52 = .ok (.getfield 7, 3) := by decide +kernel
theorem dX7_stage_55 : decode cX7_stage 55 = .ok (.iload_n 1, 1) := by decide +kernel
theorem dX7_stage_56 : decode cX7_stage 56 = .ok (.iconst 2, 1) := by decide +kernel
theorem dX7_stage_57 : decode cX7_stage 57 = .ok (.iload_n 2, 1) := by decide +kernel
theorem dX7_stage_58 : decode cX7_stage 58 = .ok (.iadd, 1) := by decide +kernel
theorem dX7_stage_59 : decode cX7_stage 59 = .ok (.invokestatic 49, 3) := by decide +kernel
theorem dX7_stage_62 : decode cX7_stage 62 = .ok (.aload_n 0, 1) := by decide +kernel
theorem dX7_stage_63 : decode cX7_stage 63 = .ok (.iload_n 1, 1) := by decide +kernel
theorem dX7_stage_64 : decode cX7_stage 64 = .ok (.iconst 2, 1) := by decide +kernel
theorem dX7_stage_65 : decode cX7_stage 65 = .ok (.iload_n 2, 1) := by decide +kernel
theorem dX7_stage_66 : decode cX7_stage 66 = .ok (.iadd, 1) := by decide +kernel
theorem dX7_stage_67 : decode cX7_stage 67 = .ok (.iconst 1, 1) := by decide +kernel
theorem dX7_stage_68 : decode cX7_stage 68 = .ok (.isub, 1) := by decide +kernel
theorem dX7_stage_69 : decode cX7_stage 69 = .ok (.invokevirtual 53, 3) := by decide +kernel
theorem dX7_stage_72 : decode cX7_stage 72 = .ok (.iastore, 1) := by decide +kernel
theorem dX7_stage_73 : decode cX7_stage 73 = .ok (.aload_n 0, 1) := by decide +kernel
theorem dX7_stage_74 : decode cX7_stage 74 = .ok (.getfield 7, 3) := by decide +kernel
theorem dX7_stage_77 : decode cX7_stage 77 = .ok (.iload_n 1, 1) := by decide +kernel
theorem dX7_stage_78 : decode cX7_stage 78 = .ok (.bipush 10, 2) := by decide +kernel
theorem dX7_stage_80 : decode cX7_stage 80 = .ok (.iload_n 2, 1) := by decide +kernel
theorem dX7_stage_81 : decode cX7_stage 81 = .ok (.iadd, 1) := by decide +kernel
theorem dX7_stage_82 : decode cX7_stage 82 = .ok (.invokestatic 49, 3) := by decide +kernel
theorem dX7_stage_85 : decode cX7_stage 85 = .ok (.iconst 0, 1) := by decide +kernel
theorem dX7_stage_86 : decode cX7_stage 86 = .ok (.iastore, 1) := by decide +kernel
theorem dX7_stage_87 : decode cX7_stage 87 = .ok (.iload_n 2, 1) := by decide +kernel
theorem dX7_stage_88 : decode cX7_stage 88 = .ok (.ireturn, 1) := by decide +kernel
set_option maxRecDepth 20000 in
theorem ggX7_wrongStage_X7_isClass : GoodIn wsX7_wrongStage wsX7_isClass := goodIn_r _ [7, 8, 9, 10, 6, 11, 20, 21, 22, 23, 24, 25, 26, 27, 28, 29, 30, 31] (by decide +kernel) (by decide +kernel)
set_option maxRecDepth 20000 in
theorem gX7_wrongStage_X7_isClass : GoodIn wsX7_wrongStage (wsV RX7 58 RX7 yX7_isClass wsX7_isClass) := goodIn_app (goodIn_of _ (by decide +kernel)) ggX7_wrongStage_X7_isClass
set_option maxRecDepth 20000 in
theorem ggX7_wrongStage_X7_of : GoodIn wsX7_wrongStage wsX7_of := goodIn_r _ [15, 16, 17, 18, 6, 19, 20, 21, 22, 23, 24, 25, 26, 27, 28, 29, 30, 31] (by decide +kernel) (by decide +kernel)
set_option maxRecDepth 20000 in
theorem gX7_wrongStage_X7_of : GoodIn wsX7_wrongStage (wsV RX7 53 RX7 yX7_of wsX7_of) := goodIn_app (goodIn_of _ (by decide +kernel)) ggX7_wrongStage_X7_of
theorem dX7_wrongStage_0 : decode cX7_wrongStage 0 = .ok (.aload_n 0, 1) := by decide +kernel
theorem dX7_wrongStage_1 : decode cX7_wrongStage 1 = .ok (.iload_n 1, 1) := by decide +kernel
theorem dX7_wrongStage_2 : decode cX7_wrongStage 2 = .ok (.invokevirtual 58, 3) := by decide +kernel
theorem dX7_wrongStage_5 : decode cX7_wrongStage 5 = .ok (.ifCond .ne 8, 3) := by decide +kernel
theorem dX7_wrongStage_8 : decode cX7_wrongStage 8 = .ok (.ldc 66, 2) := by decide +kernel
theorem dX7_wrongStage_10 : decode cX7_wrongStage 10 = .ok (.goto 18, 3) := by decide +kernel
theorem dX7_wrongStage_13 : decode cX7_wrongStage 13 = .ok (.aload_n 0, 1) := by decide +kernel
theorem dX7_wrongStage_14 : decode cX7_wrongStage 14 = .ok (.iload_n 1, 1) := by decide +kernel
theorem dX7_wrongStage_15 : decode cX7_wrongStage 15 = .ok (.iconst 1, 1) := by decide +kernel
theorem dX7_wrongStage_16 : decode cX7_wrongStage 16 = .ok (.invokevirtual 53, 3) := by decide +kernel
theorem dX7_wrongStage_19 : decode cX7_wrongStage 19 = .ok (.ifCond .ne 8, 3) := by decide +kernel
theorem dX7_wrongStage_22 : decode cX7_wrongStage 22 = .ok (.ldc 69, 2) := by decide +kernel
theorem dX7_wrongStage_24 : decode cX7_wrongStage 24 = .ok (.goto 4, 3) := by decide +kernel
theorem dX7_wrongStage_27 : decode cX7_wrongStage 27 = .ok (.iconst 0, 1) := by decide +kernel
theorem dX7_wrongStage_28 : decode cX7_wrongStage 28 = .ok (.ireturn, 1) := by decide +kernel
set_option maxRecDepth 20000 in
theorem ggX7_stagedNow_X7_of : GoodIn wsX7_stagedNow wsX7_of := goodIn_r _ [5, 6, 7, 8, 4, 9, 10, 11, 12, 13, 14, 15, 16, 17, 18, 19, 20, 21] (by decide +kernel) (by decide +kernel)
set_option maxRecDepth 20000 in
theorem gX7_stagedNow_X7_of : GoodIn wsX7_stagedNow (wsV RX7 53 RX7 yX7_of wsX7_of) := goodIn_app (goodIn_of _ (by decide +kernel)) ggX7_stagedNow_X7_of
theorem dX7_stagedNow_0 : decode cX7_stagedNow 0 = .ok (.aload_n 0, 1) := by decide +kernel
theorem dX7_stagedNow_1 : decode cX7_stagedNow 1 = .ok (.iload_n 1, 1) := by decide +kernel
theorem dX7_stagedNow_2 : decode cX7_stagedNow 2 = .ok (.iconst 2, 1) := by decide +kernel
theorem dX7_stagedNow_3 : decode cX7_stagedNow 3 = .ok (.aload_n 0, 1) := by decide +kernel
theorem dX7_stagedNow_4 : decode cX7_stagedNow 4 = .ok (.iload_n 1, 1) := by decide +kernel
theorem dX7_stagedNow_5 : decode cX7_stagedNow 5 = .ok (.iconst 0, 1) := by decide +kernel
theorem dX7_stagedNow_6 : decode cX7_stagedNow 6 = .ok (.invokevirtual 53, 3) := by decide +kernel
theorem dX7_stagedNow_9 : decode cX7_stagedNow 9 = .ok (.iadd, 1) := by decide +kernel
theorem dX7_stagedNow_10 : decode cX7_stagedNow 10 = .ok (.invokevirtual 53, 3) := by decide +kernel
theorem dX7_stagedNow_13 : decode cX7_stagedNow 13 = .ok (.ireturn, 1) := by decide +kernel
set_option maxRecDepth 20000 in
theorem ggX7_has_X7_in : GoodIn wsX7_has wsX7_in := goodIn_r _ [4] (by decide +kernel) (by decide +kernel)
set_option maxRecDepth 20000 in
theorem gX7_has_X7_in : GoodIn wsX7_has (va_wsS RX7 45 yX7_in wsX7_in) := goodIn_app (goodIn_of _ (by decide +kernel)) ggX7_has_X7_in
theorem dX7_has_0 : decode cX7_has 0 = .ok (.iload_n 1, 1) := by decide +kernel
theorem dX7_has_1 : decode cX7_has 1 = .ok (.iconst 0, 1) := by decide +kernel
theorem dX7_has_2 : decode cX7_has 2 = .ok (.bipush 7, 2) := by decide +kernel
theorem dX7_has_4 : decode cX7_has 4 = .ok (.invokestatic 45, 3) := by decide +kernel
theorem dX7_has_7 : decode cX7_has 7 = .ok (.ifCond .eq 16, 3) := by decide +kernel
theorem dX7_has_10 : decode cX7_has 10 = .ok (.iload_n 0, 1) := by decide +kernel
theorem dX7_has_11 : decode cX7_has 11 = .ok (.iload_n 1, 1) := by decide +kernel
theorem dX7_has_12 : decode cX7_has 12 = .ok (.ishr, 1) := by decide +kernel
theorem dX7_has_13 : decode cX7_has 13 = .ok (.iconst 1, 1) := by decide +kernel
theorem dX7_has_14 : decode cX7_has 14 = .ok (.iand, 1) := by decide +kernel
theorem dX7_has_15 : decode cX7_has 15 = .ok (.iconst 1, 1) := by decide +kernel
theorem dX7_has_16 : decode cX7_has 16 = .ok (.if_icmp .ne 7, 3) := by decide +kernel
theorem dX7_has_19 : decode cX7_has 19 = .ok (.iconst 1, 1) := by decide +kernel
theorem dX7_has_20 : decode cX7_has 20 = .ok (.goto 4, 3) := by decide +kernel
theorem dX7_has_23 : decode cX7_has 23 = .ok (.iconst 0, 1) := by decide +kernel
theorem dX7_has_24 : decode cX7_has 24 = .ok (.ireturn, 1) := by decide +kernel
set_option maxRecDepth 20000 in
theorem ggX7_stagedFields_X7_wrongStage : GoodIn wsX7_stagedFields wsX7_wrongStage := goodIn_r _ [5, 6, 7, 8, 9, 10, 4, 11, 12, 13, 14, 15, 16, 17, 18, 19, 20, 21, 22, 23, 28, 29, 30, 31, 32, 33, 34, 35, 36, 37, 38, 39] (by decide +kernel) (by decide +kernel)
set_option maxRecDepth 20000 in
theorem gX7_stagedFields_X7_wrongStage : GoodIn wsX7_stagedFields (wsV RX7 70 RX7 yX7_wrongStage wsX7_wrongStage) := goodIn_app (goodIn_of _ (by decide +kernel)) ggX7_stagedFields_X7_wrongStage
set_option maxRecDepth 20000 in
theorem ggX7_stagedFields_X7_stagedNow : GoodIn wsX7_stagedFields wsX7_stagedNow := goodIn_r _ [27, 16, 17, 18, 4, 19, 20, 21, 22, 23, 28, 29, 30, 31, 32, 33, 34, 35, 36, 37, 38, 39] (by decide +kernel) (by decide +kernel)
set_option maxRecDepth 20000 in
theorem gX7_stagedFields_X7_stagedNow : GoodIn wsX7_stagedFields (wsV RX7 73 RX7 yX7_stagedNow wsX7_stagedNow) := goodIn_app (goodIn_of _ (by decide +kernel)) ggX7_stagedFields_X7_stagedNow
theorem dX7_stagedFields_0 : decode cX7_stagedFields 0 = .ok (.aload_n 0, 1) := by decide +kernel
theorem dX7_stagedFields_1 : decode cX7_stagedFields 1 = .ok (.iload_n 1, 1) := by decide +kernel
theorem dX7_stagedFields_2 : decode cX7_stagedFields 2 = .ok (.invokevirtual 70, 3) := by decide +kernel
theorem dX7_stagedFields_5 : decode cX7_stagedFields 5 = .ok (.istore_n 2, 1) := by decide +kernel
theorem dX7_stagedFields_6 : decode cX7_stagedFields 6 = .ok (.iload_n 2, 1) := by decide +kernel
theorem dX7_stagedFields_7 : decode cX7_stagedFields 7 = .ok (.ifCond .eq 7, 3) := by decide +kernel
theorem dX7_stagedFields_10 : decode cX7_stagedFields 10 = .ok (.iload_n 2, 1) := by decide +kernel
theorem dX7_stagedFields_11 : decode cX7_stagedFields 11 = .ok (.goto 8, 3) := by decide +kernel
theorem dX7_stagedFields_14 : decode cX7_stagedFields 14 = .ok (.aload_n 0, 1) := by decide +kernel
theorem dX7_stagedFields_15 : decode cX7_stagedFields 15 = .ok (.iload_n 1, 1) := by decide +kernel
theorem dX7_stagedFields_16 : decode cX7_stagedFields 16 = .ok (.invokevirtual 73, 3) := by decide +kernel
theorem dX7_stagedFields_19 : decode cX7_stagedFields 19 = .ok (.ireturn, 1) := by decide +kernel
set_option maxRecDepth 20000 in
theorem ggX7_append_X7_of : GoodIn wsX7_append wsX7_of := goodIn_r _ [7, 2, 8, 9, 6, 10, 11, 12, 13, 14, 15, 16, 17, 18, 19, 20, 21, 22] (by decide +kernel) (by decide +kernel)
set_option maxRecDepth 20000 in
theorem gX7_append_X7_of : GoodIn wsX7_append (wsV RX7 53 RX7 yX7_of wsX7_of) := goodIn_app (goodIn_of _ (by decide +kernel)) ggX7_append_X7_of
set_option maxRecDepth 20000 in
theorem ggX7_append_X7_at : GoodIn wsX7_append wsX7_at := goodIn_r _ [10] (by decide +kernel) (by decide +kernel)
set_option maxRecDepth 20000 in
theorem gX7_append_X7_at : GoodIn wsX7_append (va_wsS RX7 49 yX7_at wsX7_at) := goodIn_app (goodIn_of _ (by decide +kernel)) ggX7_append_X7_at
theorem dX7_append_0 : decode cX7_append 0 = .ok (.aload_n 0, 1) := by decide +kernel
theorem dX7_append_1 : decode cX7_append 1 = .ok (.iload_n 1, 1) := by decide +kernel
theorem dX7_append_2 : decode cX7_append 2 = .ok (.iconst 0, 1) := by decide +kernel
theorem dX7_append_3 : decode cX7_append 3 = .ok (.invokevirtual 53, 3) := by decide +kernel
theorem dX7_append_6 : decode cX7_append 6 = .ok (.istore 6, 2) := by decide +kernel
theorem dX7_append_8 : decode cX7_append 8 = .ok (.aload_n 0, 1) := by decide +kernel
theorem dX7_append_9 : decode cX7_append 9 = .ok (.iload_n 1, 1) := by decide +kernel
theorem dX7_append_10 : decode cX7_append 10 = .ok (.bipush 10, 2) := by decide +kernel
theorem dX7_append_12 : decode cX7_append 12 = .ok (.iload 6, 2) := by decide +kernel
theorem dX7_append_14 : decode cX7_append 14 = .ok (.iadd, 1) := by decide +kernel
theorem dX7_append_15 : decode cX7_append 15 = .ok (.invokevirtual 53, 3) := by decide +kernel
theorem dX7_append_18 : decode cX7_append 18 = .ok (.istore 7, 2) := by decide +kernel
theorem dX7_append_20 : decode cX7_append 20 = .ok (.iload 7, 2) := by decide +kernel
theorem dX7_append_22 : decode cX7_append 22 = .ok (.bipush 6, 2) := by decide +kernel
theorem dX7_append_24 : decode cX7_append 24 = .ok (.if_icmp .ne 6, 3) := by decide +kernel
theorem dX7_append_27 : decode cX7_append 27 = .ok (.ldc 57, 2) := by decide +kernel
theorem dX7_append_29 : decode cX7_append 29 = .ok (.ireturn, 1) := by decide +kernel
theorem dX7_append_30 : decode cX7_append 30 = .ok (.iload_n 1, 1) := by decide +kernel
theorem dX7_append_31 : decode cX7_append 31 = .ok (.bipush 18, 2) := by decide +kernel
theorem dX7_append_33 : decode cX7_append 33 = .ok (.bipush 18, 2) := by decide +kernel
theorem dX7_append_35 : decode cX7_append 35 = .ok (.iload 6, 2) := by decide +kernel
theorem dX7_append_37 : decode cX7_append 37 = .ok (.imul, 1) := by decide +kernel
theorem dX7_append_38 : decode cX7_append 38 = .ok (.iadd, 1) := by decide +kernel
theorem dX7_append_39 : decode cX7_append 39 = .ok (.iconst 3, 1) := by decide +kernel
theorem dX7_append_40 : decode cX7_append 40 = .ok (.iload 7, 2) := by decide +kernel
theorem dX7_append_42 : decode cX7_append 42 = .ok (.imul, 1) := by decide +kernel
theorem dX7_append_43 : decode cX7_append 43 = .ok (.iadd, 1) := by decide +kernel
theorem dX7_append_44 : decode cX7_append 44 = .ok (.invokestatic 49, 3) := by decide +kernel
theorem dX7_append_47 : decode cX7_append 47 = .ok (.istore 8, 2) := by decide +kernel
theorem dX7_append_49 : decode cX7_append 49 = .ok (.aload_n 0, 1) := by decide +kernel
theorem dX7_append_50 : decode cX7_append 50 = .ok (.getfield 7, 3) := by decide +kernel
theorem dX7_append_53 : decode cX7_append 53 = .ok (.iload 8, 2) := by decide +kernel
theorem dX7_append_55 : decode cX7_append 55 = .ok (.iload_n 2, 1) := by decide +kernel
theorem dX7_append_56 : decode cX7_append 56 = .ok (.iastore, 1) := by decide +kernel
theorem dX7_append_57 : decode cX7_append 57 = .ok (.aload_n 0, 1) := by decide +kernel
theorem dX7_append_58 : decode cX7_append 58 = .ok (.getfield 7, 3) := by decide +kernel
theorem dX7_append_61 : decode cX7_append 61 = .ok (.iload 8, 2) := by decide +kernel
theorem dX7_append_63 : decode cX7_append 63 = .ok (.iconst 1, 1) := by decide +kernel
theorem dX7_append_64 : decode cX7_append 64 = .ok (.iadd, 1) := by decide +kernel
theorem dX7_append_65 : decode cX7_append 65 = .ok (.iload_n 3, 1) := by decide +kernel
theorem dX7_append_66 : decode cX7_append 66 = .ok (.iastore, 1) := by decide +kernel
theorem dX7_append_67 : decode cX7_append 67 = .ok (.aload_n 0, 1) := by decide +kernel
theorem dX7_append_68 : decode cX7_append 68 = .ok (.getfield 7, 3) := by decide +kernel
theorem dX7_append_71 : decode cX7_append 71 = .ok (.iload 8, 2) := by decide +kernel
theorem dX7_append_73 : decode cX7_append 73 = .ok (.iconst 2, 1) := by decide +kernel
theorem dX7_append_74 : decode cX7_append 74 = .ok (.iadd, 1) := by decide +kernel
theorem dX7_append_75 : decode cX7_append 75 = .ok (.iload 4, 2) := by decide +kernel
theorem dX7_append_77 : decode cX7_append 77 = .ok (.iastore, 1) := by decide +kernel
theorem dX7_append_78 : decode cX7_append 78 = .ok (.aload_n 0, 1) := by decide +kernel
theorem dX7_append_79 : decode cX7_append 79 = .ok (.getfield 7, 3) := by decide +kernel
theorem dX7_append_82 : decode cX7_append 82 = .ok (.iload_n 1, 1) := by decide +kernel
theorem dX7_append_83 : decode cX7_append 83 = .ok (.bipush 10, 2) := by decide +kernel
theorem dX7_append_85 : decode cX7_append 85 = .ok (.iload 6, 2) := by decide +kernel
theorem dX7_append_87 : decode cX7_append 87 = .ok (.iadd, 1) := by decide +kernel
theorem dX7_append_88 : decode cX7_append 88 = .ok (.invokestatic 49, 3) := by decide +kernel
theorem dX7_append_91 : decode cX7_append 91 = .ok (.dup2, 1) := by decide +kernel
theorem dX7_append_92 : decode cX7_append 92 = .ok (.iaload, 1) := by decide +kernel
theorem dX7_append_93 : decode cX7_append 93 = .ok (.iconst 1, 1) := by decide +kernel
theorem dX7_append_94 : decode cX7_append 94 = .ok (.iadd, 1) := by decide +kernel
theorem dX7_append_95 : decode cX7_append 95 = .ok (.iastore, 1) := by decide +kernel
theorem dX7_append_96 : decode cX7_append 96 = .ok (.aload_n 0, 1) := by decide +kernel
theorem dX7_append_97 : decode cX7_append 97 = .ok (.getfield 7, 3) := by decide +kernel
theorem dX7_append_100 : decode cX7_append 100 = .ok (.iload_n 1, 1) := by decide +kernel
theorem dX7_append_101 : decode cX7_append 101 = .ok (.iconst 2, 1) := by decide +kernel
theorem dX7_append_102 : decode cX7_append 102 = .ok (.iload 6, 2) := by decide +kernel
theorem dX7_append_104 : decode cX7_append 104 = .ok (.iadd, 1) := by decide +kernel
theorem dX7_append_105 : decode cX7_append 105 = .ok (.invokestatic 49, 3) := by decide +kernel
theorem dX7_append_108 : decode cX7_append 108 = .ok (.iload 5, 2) := by decide +kernel
theorem dX7_append_110 : decode cX7_append 110 = .ok (.iastore, 1) := by decide +kernel
theorem dX7_append_111 : decode cX7_append 111 = .ok (.iload 7, 2) := by decide +kernel
theorem dX7_append_113 : decode cX7_append 113 = .ok (.iconst 1, 1) := by decide +kernel
theorem dX7_append_114 : decode cX7_append 114 = .ok (.iadd, 1) := by decide +kernel
theorem dX7_append_115 : decode cX7_append 115 = .ok (.ireturn, 1) := by decide +kernel
set_option maxRecDepth 20000 in
theorem ggX7_addField_X7_wrongStage : GoodIn wsX7_addField wsX7_wrongStage := goodIn_r _ [9, 10, 11, 12, 13, 14, 8, 15, 16, 17, 18, 19, 20, 21, 22, 23, 24, 25, 26, 27, 40, 41, 42, 43, 44, 45, 46, 47, 48, 49, 50, 51] (by decide +kernel) (by decide +kernel)
set_option maxRecDepth 20000 in
theorem gX7_addField_X7_wrongStage : GoodIn wsX7_addField (wsV RX7 70 RX7 yX7_wrongStage wsX7_wrongStage) := goodIn_app (goodIn_of _ (by decide +kernel)) ggX7_addField_X7_wrongStage
set_option maxRecDepth 20000 in
theorem ggX7_addField_X7_in : GoodIn wsX7_addField wsX7_in := goodIn_r _ [19] (by decide +kernel) (by decide +kernel)
set_option maxRecDepth 20000 in
theorem gX7_addField_X7_in : GoodIn wsX7_addField (va_wsS RX7 45 yX7_in wsX7_in) := goodIn_app (goodIn_of _ (by decide +kernel)) ggX7_addField_X7_in
set_option maxRecDepth 20000 in
theorem ggX7_addField_X7_stagedNow : GoodIn wsX7_addField wsX7_stagedNow := goodIn_r _ [31, 20, 21, 22, 8, 23, 24, 25, 26, 27, 40, 41, 42, 43, 44, 45, 46, 47, 48, 49, 50, 51] (by decide +kernel) (by decide +kernel)
set_option maxRecDepth 20000 in
theorem gX7_addField_X7_stagedNow : GoodIn wsX7_addField (wsV RX7 73 RX7 yX7_stagedNow wsX7_stagedNow) := goodIn_app (goodIn_of _ (by decide +kernel)) ggX7_addField_X7_stagedNow
set_option maxRecDepth 20000 in
theorem ggX7_addField_X7_has : GoodIn wsX7_addField wsX7_has := goodIn_r _ [34, 17, 18, 8, 19] (by decide +kernel) (by decide +kernel)
set_option maxRecDepth 20000 in
theorem gX7_addField_X7_has : GoodIn wsX7_addField (va_wsS RX7 78 yX7_has wsX7_has) := goodIn_app (goodIn_of _ (by decide +kernel)) ggX7_addField_X7_has
set_option maxRecDepth 20000 in
theorem ggX7_addField_X7_append : GoodIn wsX7_addField wsX7_append := goodIn_r _ [38, 39, 24, 20, 21, 22, 8, 23, 25, 26, 27, 40, 41, 42, 43, 44, 45, 46, 47, 48, 49, 50, 51] (by decide +kernel) (by decide +kernel)
set_option maxRecDepth 20000 in
theorem gX7_addField_X7_append : GoodIn wsX7_addField (wsV RX7 82 RX7 yX7_append wsX7_append) := goodIn_app (goodIn_of _ (by decide +kernel)) ggX7_addField_X7_append
theorem dX7_addField_0 : decode cX7_addField 0 = .ok (.aload_n 0, 1) := by decide +kernel
theorem dX7_addField_1 : decode cX7_addField 1 = .ok (.iload_n 1, 1) := by decide +kernel
theorem dX7_addField_2 : decode cX7_addField 2 = .ok (.invokevirtual 70, 3) := by decide +kernel
theorem dX7_addField_5 : decode cX7_addField 5 = .ok (.istore 4, 2) := by decide +kernel
theorem dX7_addField_7 : decode cX7_addField 7 = .ok (.iload 4, 2) := by decide +kernel
theorem dX7_addField_9 : decode cX7_addField 9 = .ok (.ifCond .eq 6, 3) := by decide +kernel
theorem dX7_addField_12 : decode cX7_addField 12 = .ok (.iload 4, 2) := by decide +kernel
theorem dX7_addField_14 : decode cX7_addField 14 = .ok (.ireturn, 1) := by decide +kernel
theorem dX7_addField_15 : decode cX7_addField 15 = .ok (.iload_n 2, 1) := by decide +kernel
theorem dX7_addField_16 : decode cX7_addField 16 = .ok (.iconst 0, 1) := by decide +kernel
theorem dX7_addField_17 : decode cX7_addField 17 = .ok (.bipush 7, 2) := by decide +kernel
theorem dX7_addField_19 : decode cX7_addField 19 = .ok (.invokestatic 45, 3) := by decide +kernel
theorem dX7_addField_22 : decode cX7_addField 22 = .ok (.ifCond .eq 14, 3) := by decide +kernel
theorem dX7_addField_25 : decode cX7_addField 25 = .ok (.iload_n 3, 1) := by decide +kernel
theorem dX7_addField_26 : decode cX7_addField 26 = .ok (.ldc 76, 2) := by decide +kernel
theorem dX7_addField_28 : decode cX7_addField 28 = .ok (.ldc 77, 2) := by decide +kernel
theorem dX7_addField_30 : decode cX7_addField 30 = .ok (.invokestatic 45, 3) := by decide +kernel
theorem dX7_addField_33 : decode cX7_addField 33 = .ok (.ifCond .ne 6, 3) := by decide +kernel
theorem dX7_addField_36 : decode cX7_addField 36 = .ok (.ldc 56, 2) := by decide +kernel
theorem dX7_addField_38 : decode cX7_addField 38 = .ok (.ireturn, 1) := by decide +kernel
theorem dX7_addField_39 : decode cX7_addField 39 = .ok (.aload_n 0, 1) := by decide +kernel
theorem dX7_addField_40 : decode cX7_addField 40 = .ok (.iload_n 1, 1) := by decide +kernel
theorem dX7_addField_41 : decode cX7_addField 41 = .ok (.invokevirtual 73, 3) := by decide +kernel
theorem dX7_addField_44 : decode cX7_addField 44 = .ok (.istore 5, 2) := by decide +kernel
theorem dX7_addField_46 : decode cX7_addField 46 = .ok (.iload 5, 2) := by decide +kernel
theorem dX7_addField_48 : decode cX7_addField 48 = .ok (.iload_n 2, 1) := by decide +kernel
theorem dX7_addField_49 : decode cX7_addField 49 = .ok (.invokestatic 78, 3) := by decide +kernel
theorem dX7_addField_52 : decode cX7_addField 52 = .ok (.ifCond .eq 8, 3) := by decide +kernel
theorem dX7_addField_55 : decode cX7_addField 55 = .ok (.ldc 68, 2) := by decide +kernel
theorem dX7_addField_57 : decode cX7_addField 57 = .ok (.goto 17, 3) := by decide +kernel
theorem dX7_addField_60 : decode cX7_addField 60 = .ok (.aload_n 0, 1) := by decide +kernel
theorem dX7_addField_61 : decode cX7_addField 61 = .ok (.iload_n 1, 1) := by decide +kernel
theorem dX7_addField_62 : decode cX7_addField 62 = .ok (.iconst 0, 1) := by decide +kernel
theorem dX7_addField_63 : decode cX7_addField 63 = .ok (.iload_n 2, 1) := by decide +kernel
theorem dX7_addField_64 : decode cX7_addField 64 = .ok (.iload_n 3, 1) := by decide +kernel
theorem dX7_addField_65 : decode cX7_addField 65 = .ok (.iload 5, 2) := by decide +kernel
theorem dX7_addField_67 : decode cX7_addField 67 = .ok (.iconst 1, 1) := by decide +kernel
theorem dX7_addField_68 : decode cX7_addField 68 = .ok (.iload_n 2, 1) := by decide +kernel
theorem dX7_addField_69 : decode cX7_addField 69 = .ok (.ishl, 1) := by decide +kernel
theorem dX7_addField_70 : decode cX7_addField 70 = .ok (.ior, 1) := by decide +kernel
theorem dX7_addField_71 : decode cX7_addField 71 = .ok (.invokevirtual 82, 3) := by decide +kernel
theorem dX7_addField_74 : decode cX7_addField 74 = .ok (.ireturn, 1) := by decide +kernel
set_option maxRecDepth 20000 in
theorem ggX7_dropField_X7_wrongStage : GoodIn wsX7_dropField wsX7_wrongStage := goodIn_r _ [6, 7, 8, 9, 10, 11, 5, 12, 13, 14, 15, 16, 17, 18, 19, 20, 21, 22, 23, 24, 37, 38, 39, 40, 41, 42, 43, 44, 45, 46, 47, 48] (by decide +kernel) (by decide +kernel)
set_option maxRecDepth 20000 in
theorem gX7_dropField_X7_wrongStage : GoodIn wsX7_dropField (wsV RX7 70 RX7 yX7_wrongStage wsX7_wrongStage) := goodIn_app (goodIn_of _ (by decide +kernel)) ggX7_dropField_X7_wrongStage
set_option maxRecDepth 20000 in
theorem ggX7_dropField_X7_stagedNow : GoodIn wsX7_dropField wsX7_stagedNow := goodIn_r _ [28, 17, 18, 19, 5, 20, 21, 22, 23, 24, 37, 38, 39, 40, 41, 42, 43, 44, 45, 46, 47, 48] (by decide +kernel) (by decide +kernel)
set_option maxRecDepth 20000 in
theorem gX7_dropField_X7_stagedNow : GoodIn wsX7_dropField (wsV RX7 73 RX7 yX7_stagedNow wsX7_stagedNow) := goodIn_app (goodIn_of _ (by decide +kernel)) ggX7_dropField_X7_stagedNow
set_option maxRecDepth 20000 in
theorem ggX7_dropField_X7_has : GoodIn wsX7_dropField wsX7_has := goodIn_r _ [31, 14, 15, 5, 16] (by decide +kernel) (by decide +kernel)
set_option maxRecDepth 20000 in
theorem gX7_dropField_X7_has : GoodIn wsX7_dropField (va_wsS RX7 78 yX7_has wsX7_has) := goodIn_app (goodIn_of _ (by decide +kernel)) ggX7_dropField_X7_has
set_option maxRecDepth 20000 in
theorem ggX7_dropField_X7_append : GoodIn wsX7_dropField wsX7_append := goodIn_r _ [35, 36, 21, 17, 18, 19, 5, 20, 22, 23, 24, 37, 38, 39, 40, 41, 42, 43, 44, 45, 46, 47, 48] (by decide +kernel) (by decide +kernel)
set_option maxRecDepth 20000 in
theorem gX7_dropField_X7_append : GoodIn wsX7_dropField (wsV RX7 82 RX7 yX7_append wsX7_append) := goodIn_app (goodIn_of _ (by decide +kernel)) ggX7_dropField_X7_append
theorem dX7_dropField_0 : decode cX7_dropField 0 = .ok (.aload_n 0, 1) := by decide +kernel
theorem dX7_dropField_1 : decode cX7_dropField 1 = .ok (.iload_n 1, 1) := by decide +kernel
theorem dX7_dropField_2 : decode cX7_dropField 2 = .ok (.invokevirtual 70, 3) := by decide +kernel
theorem dX7_dropField_5 : decode cX7_dropField 5 = .ok (.istore_n 3, 1) := by decide +kernel
theorem dX7_dropField_6 : decode cX7_dropField 6 = .ok (.iload_n 3, 1) := by decide +kernel
theorem dX7_dropField_7 : decode cX7_dropField 7 = .ok (.ifCond .eq 5, 3) := by decide +kernel
theorem dX7_dropField_10 : decode cX7_dropField 10 = .ok (.iload_n 3, 1) := by decide +kernel
theorem dX7_dropField_11 : decode cX7_dropField 11 = .ok (.ireturn, 1) := by decide +kernel
theorem dX7_dropField_12 : decode cX7_dropField 12 = .ok (.aload_n 0, 1) := by decide +kernel
theorem dX7_dropField_13 : decode cX7_dropField 13 = .ok (.iload_n 1, 1) := by decide +kernel
theorem dX7_dropField_14 : decode cX7_dropField 14 = .ok (.invokevirtual 73, 3) := by decide +kernel
theorem dX7_dropField_17 : decode cX7_dropField 17 = .ok (.istore 4, 2) := by decide +kernel
theorem dX7_dropField_19 : decode cX7_dropField 19 = .ok (.iload 4, 2) := by decide +kernel
theorem dX7_dropField_21 : decode cX7_dropField 21 = .ok (.iload_n 2, 1) := by decide +kernel
theorem dX7_dropField_22 : decode cX7_dropField 22 = .ok (.invokestatic 78, 3) := by decide +kernel
theorem dX7_dropField_25 : decode cX7_dropField 25 = .ok (.ifCond .eq 22, 3) := by decide +kernel
theorem dX7_dropField_28 : decode cX7_dropField 28 = .ok (.aload_n 0, 1) := by decide +kernel
theorem dX7_dropField_29 : decode cX7_dropField 29 = .ok (.iload_n 1, 1) := by decide +kernel
theorem dX7_dropField_30 : decode cX7_dropField 30 = .ok (.iconst 1, 1) := by decide +kernel
theorem dX7_dropField_31 : decode cX7_dropField 31 = .ok (.iload_n 2, 1) := by decide +kernel
theorem dX7_dropField_32 : decode cX7_dropField 32 = .ok (.iconst 0, 1) := by decide +kernel
theorem dX7_dropField_33 : decode cX7_dropField 33 = .ok (.iload 4, 2) := by decide +kernel
theorem dX7_dropField_35 : decode cX7_dropField 35 = .ok (.iconst 1, 1) := by decide +kernel
theorem dX7_dropField_36 : decode cX7_dropField 36 = .ok (.iload_n 2, 1) := by decide +kernel
theorem dX7_dropField_37 : decode cX7_dropField 37 = .ok (.ishl, 1) := by decide +kernel
theorem dX7_dropField_38 : decode cX7_dropField 38 = .ok (.iconst (-1), 1) := by decide +kernel
theorem dX7_dropField_39 : decode cX7_dropField 39 = .ok (.ixor, 1) := by decide +kernel
theorem dX7_dropField_40 : decode cX7_dropField 40 = .ok (.iand, 1) := by decide +kernel
theorem dX7_dropField_41 : decode cX7_dropField 41 = .ok (.invokevirtual 82, 3) := by decide +kernel
theorem dX7_dropField_44 : decode cX7_dropField 44 = .ok (.goto 5, 3) := by decide +kernel
theorem dX7_dropField_47 : decode cX7_dropField 47 = .ok (.ldc 86, 2) := by decide +kernel
theorem dX7_dropField_49 : decode cX7_dropField 49 = .ok (.ireturn, 1) := by decide +kernel
set_option maxRecDepth 20000 in
theorem ggX7_renameField_X7_wrongStage : GoodIn wsX7_renameField wsX7_wrongStage := goodIn_r _ [8, 9, 10, 11, 12, 13, 7, 14, 15, 16, 17, 18, 19, 20, 21, 22, 23, 24, 25, 26, 39, 40, 41, 42, 43, 44, 45, 46, 47, 48, 49, 50] (by decide +kernel) (by decide +kernel)
set_option maxRecDepth 20000 in
theorem gX7_renameField_X7_wrongStage : GoodIn wsX7_renameField (wsV RX7 70 RX7 yX7_wrongStage wsX7_wrongStage) := goodIn_app (goodIn_of _ (by decide +kernel)) ggX7_renameField_X7_wrongStage
set_option maxRecDepth 20000 in
theorem ggX7_renameField_X7_stagedNow : GoodIn wsX7_renameField wsX7_stagedNow := goodIn_r _ [30, 19, 20, 21, 7, 22, 23, 24, 25, 26, 39, 40, 41, 42, 43, 44, 45, 46, 47, 48, 49, 50] (by decide +kernel) (by decide +kernel)
set_option maxRecDepth 20000 in
theorem gX7_renameField_X7_stagedNow : GoodIn wsX7_renameField (wsV RX7 73 RX7 yX7_stagedNow wsX7_stagedNow) := goodIn_app (goodIn_of _ (by decide +kernel)) ggX7_renameField_X7_stagedNow
set_option maxRecDepth 20000 in
theorem ggX7_renameField_X7_has : GoodIn wsX7_renameField wsX7_has := goodIn_r _ [33, 16, 17, 7, 18] (by decide +kernel) (by decide +kernel)
set_option maxRecDepth 20000 in
theorem gX7_renameField_X7_has : GoodIn wsX7_renameField (va_wsS RX7 78 yX7_has wsX7_has) := goodIn_app (goodIn_of _ (by decide +kernel)) ggX7_renameField_X7_has
set_option maxRecDepth 20000 in
theorem ggX7_renameField_X7_in : GoodIn wsX7_renameField wsX7_in := goodIn_r _ [18] (by decide +kernel) (by decide +kernel)
set_option maxRecDepth 20000 in
theorem gX7_renameField_X7_in : GoodIn wsX7_renameField (va_wsS RX7 45 yX7_in wsX7_in) := goodIn_app (goodIn_of _ (by decide +kernel)) ggX7_renameField_X7_in
set_option maxRecDepth 20000 in
theorem ggX7_renameField_X7_append : GoodIn wsX7_renameField wsX7_append := goodIn_r _ [37, 38, 23, 19, 20, 21, 7, 22, 24, 25, 26, 39, 40, 41, 42, 43, 44, 45, 46, 47, 48, 49, 50] (by decide +kernel) (by decide +kernel)
set_option maxRecDepth 20000 in
theorem gX7_renameField_X7_append : GoodIn wsX7_renameField (wsV RX7 82 RX7 yX7_append wsX7_append) := goodIn_app (goodIn_of _ (by decide +kernel)) ggX7_renameField_X7_append
theorem dX7_renameField_0 : decode cX7_renameField 0 = .ok (.aload_n 0, 1) := by decide +kernel
theorem dX7_renameField_1 : decode cX7_renameField 1 = .ok (.iload_n 1, 1) := by decide +kernel
theorem dX7_renameField_2 : decode cX7_renameField 2 = .ok (.invokevirtual 70, 3) := by decide +kernel
theorem dX7_renameField_5 : decode cX7_renameField 5 = .ok (.istore 4, 2) := by decide +kernel
theorem dX7_renameField_7 : decode cX7_renameField 7 = .ok (.iload 4, 2) := by decide +kernel
theorem dX7_renameField_9 : decode cX7_renameField 9 = .ok (.ifCond .eq 6, 3) := by decide +kernel
theorem dX7_renameField_12 : decode cX7_renameField 12 = .ok (.iload 4, 2) := by decide +kernel
theorem dX7_renameField_14 : decode cX7_renameField 14 = .ok (.ireturn, 1) := by decide +kernel
theorem dX7_renameField_15 : decode cX7_renameField 15 = .ok (.aload_n 0, 1) := by decide +kernel
theorem dX7_renameField_16 : decode cX7_renameField 16 = .ok (.iload_n 1, 1) := by decide +kernel
theorem dX7_renameField_17 : decode cX7_renameField 17 = .ok (.invokevirtual 73, 3) := by decide +kernel
theorem dX7_renameField_20 : decode cX7_renameField 20 = .ok (.istore 5, 2) := by decide +kernel
theorem dX7_renameField_22 : decode cX7_renameField 22 = .ok (.iload 5, 2) := by decide +kernel
theorem dX7_renameField_24 : decode cX7_renameField 24 = .ok (.iload_n 2, 1) := by decide +kernel
theorem dX7_renameField_25 : decode cX7_renameField 25 = .ok (.invokestatic 78, 3) := by decide +kernel
theorem dX7_renameField_28 : decode cX7_renameField 28 = .ok (.ifCond .ne 6, 3) := by decide +kernel
theorem dX7_renameField_31 : decode cX7_renameField 31 = .ok (.ldc 86, 2) := by decide +kernel
theorem dX7_renameField_33 : decode cX7_renameField 33 = .ok (.ireturn, 1) := by decide +kernel
theorem dX7_renameField_34 : decode cX7_renameField 34 = .ok (.iload_n 3, 1) := by decide +kernel
theorem dX7_renameField_35 : decode cX7_renameField 35 = .ok (.iconst 0, 1) := by decide +kernel
theorem dX7_renameField_36 : decode cX7_renameField 36 = .ok (.bipush 7, 2) := by decide +kernel
theorem dX7_renameField_38 : decode cX7_renameField 38 = .ok (.invokestatic 45, 3) := by decide +kernel
theorem dX7_renameField_41 : decode cX7_renameField 41 = .ok (.ifCond .ne 6, 3) := by decide +kernel
theorem dX7_renameField_44 : decode cX7_renameField 44 = .ok (.ldc 56, 2) := by decide +kernel
theorem dX7_renameField_46 : decode cX7_renameField 46 = .ok (.ireturn, 1) := by decide +kernel
theorem dX7_renameField_47 : decode cX7_renameField 47 = .ok (.iload 5, 2) := by decide +kernel
theorem dX7_renameField_49 : decode cX7_renameField 49 = .ok (.iload_n 3, 1) := by decide +kernel
theorem dX7_renameField_50 : decode cX7_renameField 50 = .ok (.invokestatic 78, 3) := by decide +kernel
theorem dX7_renameField_53 : decode cX7_renameField 53 = .ok (.ifCond .eq 8, 3) := by decide +kernel
theorem dX7_renameField_56 : decode cX7_renameField 56 = .ok (.ldc 68, 2) := by decide +kernel
theorem dX7_renameField_58 : decode cX7_renameField 58 = .ok (.goto 23, 3) := by decide +kernel
theorem dX7_renameField_61 : decode cX7_renameField 61 = .ok (.aload_n 0, 1) := by decide +kernel
theorem dX7_renameField_62 : decode cX7_renameField 62 = .ok (.iload_n 1, 1) := by decide +kernel
theorem dX7_renameField_63 : decode cX7_renameField 63 = .ok (.iconst 2, 1) := by decide +kernel
theorem dX7_renameField_64 : decode cX7_renameField 64 = .ok (.iload_n 2, 1) := by decide +kernel
theorem dX7_renameField_65 : decode cX7_renameField 65 = .ok (.iload_n 3, 1) := by decide +kernel
theorem dX7_renameField_66 : decode cX7_renameField 66 = .ok (.iload 5, 2) := by decide +kernel
theorem dX7_renameField_68 : decode cX7_renameField 68 = .ok (.iconst 1, 1) := by decide +kernel
theorem dX7_renameField_69 : decode cX7_renameField 69 = .ok (.iload_n 2, 1) := by decide +kernel
theorem dX7_renameField_70 : decode cX7_renameField 70 = .ok (.ishl, 1) := by decide +kernel
theorem dX7_renameField_71 : decode cX7_renameField 71 = .ok (.iconst (-1), 1) := by decide +kernel
theorem dX7_renameField_72 : decode cX7_renameField 72 = .ok (.ixor, 1) := by decide +kernel
theorem dX7_renameField_73 : decode cX7_renameField 73 = .ok (.iand, 1) := by decide +kernel
theorem dX7_renameField_74 : decode cX7_renameField 74 = .ok (.iconst 1, 1) := by decide +kernel
theorem dX7_renameField_75 : decode cX7_renameField 75 = .ok (.iload_n 3, 1) := by decide +kernel
theorem dX7_renameField_76 : decode cX7_renameField 76 = .ok (.ishl, 1) := by decide +kernel
theorem dX7_renameField_77 : decode cX7_renameField 77 = .ok (.ior, 1) := by decide +kernel
theorem dX7_renameField_78 : decode cX7_renameField 78 = .ok (.invokevirtual 82, 3) := by decide +kernel
theorem dX7_renameField_81 : decode cX7_renameField 81 = .ok (.ireturn, 1) := by decide +kernel
set_option maxRecDepth 20000 in
theorem ggX7_scaleField_X7_wrongStage : GoodIn wsX7_scaleField wsX7_wrongStage := goodIn_r _ [9, 10, 11, 12, 13, 14, 8, 15, 16, 17, 18, 19, 20, 21, 22, 23, 24, 25, 26, 27, 40, 41, 42, 43, 44, 45, 46, 47, 48, 49, 50, 51] (by decide +kernel) (by decide +kernel)
set_option maxRecDepth 20000 in
theorem gX7_scaleField_X7_wrongStage : GoodIn wsX7_scaleField (wsV RX7 70 RX7 yX7_wrongStage wsX7_wrongStage) := goodIn_app (goodIn_of _ (by decide +kernel)) ggX7_scaleField_X7_wrongStage
set_option maxRecDepth 20000 in
theorem ggX7_scaleField_X7_stagedNow : GoodIn wsX7_scaleField wsX7_stagedNow := goodIn_r _ [31, 20, 21, 22, 8, 23, 24, 25, 26, 27, 40, 41, 42, 43, 44, 45, 46, 47, 48, 49, 50, 51] (by decide +kernel) (by decide +kernel)
set_option maxRecDepth 20000 in
theorem gX7_scaleField_X7_stagedNow : GoodIn wsX7_scaleField (wsV RX7 73 RX7 yX7_stagedNow wsX7_stagedNow) := goodIn_app (goodIn_of _ (by decide +kernel)) ggX7_scaleField_X7_stagedNow
set_option maxRecDepth 20000 in
theorem ggX7_scaleField_X7_has : GoodIn wsX7_scaleField wsX7_has := goodIn_r _ [34, 17, 18, 8, 19] (by decide +kernel) (by decide +kernel)
set_option maxRecDepth 20000 in
theorem gX7_scaleField_X7_has : GoodIn wsX7_scaleField (va_wsS RX7 78 yX7_has wsX7_has) := goodIn_app (goodIn_of _ (by decide +kernel)) ggX7_scaleField_X7_has
set_option maxRecDepth 20000 in
theorem ggX7_scaleField_X7_in : GoodIn wsX7_scaleField wsX7_in := goodIn_r _ [19] (by decide +kernel) (by decide +kernel)
set_option maxRecDepth 20000 in
theorem gX7_scaleField_X7_in : GoodIn wsX7_scaleField (va_wsS RX7 45 yX7_in wsX7_in) := goodIn_app (goodIn_of _ (by decide +kernel)) ggX7_scaleField_X7_in
set_option maxRecDepth 20000 in
theorem ggX7_scaleField_X7_append : GoodIn wsX7_scaleField wsX7_append := goodIn_r _ [38, 39, 24, 20, 21, 22, 8, 23, 25, 26, 27, 40, 41, 42, 43, 44, 45, 46, 47, 48, 49, 50, 51] (by decide +kernel) (by decide +kernel)
set_option maxRecDepth 20000 in
theorem gX7_scaleField_X7_append : GoodIn wsX7_scaleField (wsV RX7 82 RX7 yX7_append wsX7_append) := goodIn_app (goodIn_of _ (by decide +kernel)) ggX7_scaleField_X7_append
theorem dX7_scaleField_0 : decode cX7_scaleField 0 = .ok (.aload_n 0, 1) := by decide +kernel
theorem dX7_scaleField_1 : decode cX7_scaleField 1 = .ok (.iload_n 1, 1) := by decide +kernel
theorem dX7_scaleField_2 : decode cX7_scaleField 2 = .ok (.invokevirtual 70, 3) := by decide +kernel
theorem dX7_scaleField_5 : decode cX7_scaleField 5 = .ok (.istore 4, 2) := by decide +kernel
theorem dX7_scaleField_7 : decode cX7_scaleField 7 = .ok (.iload 4, 2) := by decide +kernel
theorem dX7_scaleField_9 : decode cX7_scaleField 9 = .ok (.ifCond .eq 6, 3) := by decide +kernel
theorem dX7_scaleField_12 : decode cX7_scaleField 12 = .ok (.iload 4, 2) := by decide +kernel
theorem dX7_scaleField_14 : decode cX7_scaleField 14 = .ok (.ireturn, 1) := by decide +kernel
theorem dX7_scaleField_15 : decode cX7_scaleField 15 = .ok (.aload_n 0, 1) := by decide +kernel
theorem dX7_scaleField_16 : decode cX7_scaleField 16 = .ok (.iload_n 1, 1) := by decide +kernel
theorem dX7_scaleField_17 : decode cX7_scaleField 17 = .ok (.invokevirtual 73, 3) := by decide +kernel
theorem dX7_scaleField_20 : decode cX7_scaleField 20 = .ok (.istore 5, 2) := by decide +kernel
theorem dX7_scaleField_22 : decode cX7_scaleField 22 = .ok (.iload 5, 2) := by decide +kernel
theorem dX7_scaleField_24 : decode cX7_scaleField 24 = .ok (.iload_n 2, 1) := by decide +kernel
theorem dX7_scaleField_25 : decode cX7_scaleField 25 = .ok (.invokestatic 78, 3) := by decide +kernel
theorem dX7_scaleField_28 : decode cX7_scaleField 28 = .ok (.ifCond .ne 6, 3) := by decide +kernel
theorem dX7_scaleField_31 : decode cX7_scaleField 31 = .ok (.ldc 86, 2) := by decide +kernel
theorem dX7_scaleField_33 : decode cX7_scaleField 33 = .ok (.ireturn, 1) := by decide +kernel
theorem dX7_scaleField_34 : decode cX7_scaleField 34 = .ok (.iload_n 3, 1) := by decide +kernel
theorem dX7_scaleField_35 : decode cX7_scaleField 35 = .ok (.ldc 87, 2) := by decide +kernel
theorem dX7_scaleField_37 : decode cX7_scaleField 37 = .ok (.ldc 88, 2) := by decide +kernel
theorem dX7_scaleField_39 : decode cX7_scaleField 39 = .ok (.invokestatic 45, 3) := by decide +kernel
theorem dX7_scaleField_42 : decode cX7_scaleField 42 = .ok (.ifCond .eq 16, 3) := by decide +kernel
theorem dX7_scaleField_45 : decode cX7_scaleField 45 = .ok (.aload_n 0, 1) := by decide +kernel
theorem dX7_scaleField_46 : decode cX7_scaleField 46 = .ok (.iload_n 1, 1) := by decide +kernel
theorem dX7_scaleField_47 : decode cX7_scaleField 47 = .ok (.iconst 3, 1) := by decide +kernel
theorem dX7_scaleField_48 : decode cX7_scaleField 48 = .ok (.iload_n 2, 1) := by decide +kernel
theorem dX7_scaleField_49 : decode cX7_scaleField 49 = .ok (.iload_n 3, 1) := by decide +kernel
theorem dX7_scaleField_50 : decode cX7_scaleField 50 = .ok (.iload 5, 2) := by decide +kernel
theorem dX7_scaleField_52 : decode cX7_scaleField 52 = .ok (.invokevirtual 82, 3) := by decide +kernel
theorem dX7_scaleField_55 : decode cX7_scaleField 55 = .ok (.goto 5, 3) := by decide +kernel
theorem dX7_scaleField_58 : decode cX7_scaleField 58 = .ok (.ldc 56, 2) := by decide +kernel
theorem dX7_scaleField_60 : decode cX7_scaleField 60 = .ok (.ireturn, 1) := by decide +kernel
set_option maxRecDepth 20000 in
theorem ggX7_mergeField_X7_wrongStage : GoodIn wsX7_mergeField wsX7_wrongStage := goodIn_r _ [7, 8, 9, 10, 11, 12, 6, 13, 14, 15, 16, 17, 18, 19, 20, 21, 22, 23, 24, 25, 38, 39, 40, 41, 42, 43, 44, 45, 46, 47, 48, 49] (by decide +kernel) (by decide +kernel)
set_option maxRecDepth 20000 in
theorem gX7_mergeField_X7_wrongStage : GoodIn wsX7_mergeField (wsV RX7 70 RX7 yX7_wrongStage wsX7_wrongStage) := goodIn_app (goodIn_of _ (by decide +kernel)) ggX7_mergeField_X7_wrongStage
set_option maxRecDepth 20000 in
theorem ggX7_mergeField_X7_stagedNow : GoodIn wsX7_mergeField wsX7_stagedNow := goodIn_r _ [29, 18, 19, 20, 6, 21, 22, 23, 24, 25, 38, 39, 40, 41, 42, 43, 44, 45, 46, 47, 48, 49] (by decide +kernel) (by decide +kernel)
set_option maxRecDepth 20000 in
theorem gX7_mergeField_X7_stagedNow : GoodIn wsX7_mergeField (wsV RX7 73 RX7 yX7_stagedNow wsX7_stagedNow) := goodIn_app (goodIn_of _ (by decide +kernel)) ggX7_mergeField_X7_stagedNow
set_option maxRecDepth 20000 in
theorem ggX7_mergeField_X7_has : GoodIn wsX7_mergeField wsX7_has := goodIn_r _ [32, 15, 16, 6, 17] (by decide +kernel) (by decide +kernel)
set_option maxRecDepth 20000 in
theorem gX7_mergeField_X7_has : GoodIn wsX7_mergeField (va_wsS RX7 78 yX7_has wsX7_has) := goodIn_app (goodIn_of _ (by decide +kernel)) ggX7_mergeField_X7_has
set_option maxRecDepth 20000 in
theorem ggX7_mergeField_X7_append : GoodIn wsX7_mergeField wsX7_append := goodIn_r _ [36, 37, 22, 18, 19, 20, 6, 21, 23, 24, 25, 38, 39, 40, 41, 42, 43, 44, 45, 46, 47, 48, 49] (by decide +kernel) (by decide +kernel)
set_option maxRecDepth 20000 in
theorem gX7_mergeField_X7_append : GoodIn wsX7_mergeField (wsV RX7 82 RX7 yX7_append wsX7_append) := goodIn_app (goodIn_of _ (by decide +kernel)) ggX7_mergeField_X7_append
theorem dX7_mergeField_0 : decode cX7_mergeField 0 = .ok (.aload_n 0, 1) := by decide +kernel
theorem dX7_mergeField_1 : decode cX7_mergeField 1 = .ok (.iload_n 1, 1) := by decide +kernel
theorem dX7_mergeField_2 : decode cX7_mergeField 2 = .ok (.invokevirtual 70, 3) := by decide +kernel
theorem dX7_mergeField_5 : decode cX7_mergeField 5 = .ok (.istore 4, 2) := by decide +kernel
theorem dX7_mergeField_7 : decode cX7_mergeField 7 = .ok (.iload 4, 2) := by decide +kernel
theorem dX7_mergeField_9 : decode cX7_mergeField 9 = .ok (.ifCond .eq 6, 3) := by decide +kernel
theorem dX7_mergeField_12 : decode cX7_mergeField 12 = .ok (.iload 4, 2) := by decide +kernel
theorem dX7_mergeField_14 : decode cX7_mergeField 14 = .ok (.ireturn, 1) := by decide +kernel
theorem dX7_mergeField_15 : decode cX7_mergeField 15 = .ok (.aload_n 0, 1) := by decide +kernel
theorem dX7_mergeField_16 : decode cX7_mergeField 16 = .ok (.iload_n 1, 1) := by decide +kernel
theorem dX7_mergeField_17 : decode cX7_mergeField 17 = .ok (.invokevirtual 73, 3) := by decide +kernel
theorem dX7_mergeField_20 : decode cX7_mergeField 20 = .ok (.istore 5, 2) := by decide +kernel
theorem dX7_mergeField_22 : decode cX7_mergeField 22 = .ok (.iload 5, 2) := by decide +kernel
theorem dX7_mergeField_24 : decode cX7_mergeField 24 = .ok (.iload_n 2, 1) := by decide +kernel
theorem dX7_mergeField_25 : decode cX7_mergeField 25 = .ok (.invokestatic 78, 3) := by decide +kernel
theorem dX7_mergeField_28 : decode cX7_mergeField 28 = .ok (.ifCond .eq 12, 3) := by decide +kernel
theorem dX7_mergeField_31 : decode cX7_mergeField 31 = .ok (.iload 5, 2) := by decide +kernel
theorem dX7_mergeField_33 : decode cX7_mergeField 33 = .ok (.iload_n 3, 1) := by decide +kernel
theorem dX7_mergeField_34 : decode cX7_mergeField 34 = .ok (.invokestatic 78, 3) := by decide +kernel
theorem dX7_mergeField_37 : decode cX7_mergeField 37 = .ok (.ifCond .ne 6, 3) := by decide +kernel
theorem dX7_mergeField_40 : decode cX7_mergeField 40 = .ok (.ldc 86, 2) := by decide +kernel
theorem dX7_mergeField_42 : decode cX7_mergeField 42 = .ok (.ireturn, 1) := by decide +kernel
theorem dX7_mergeField_43 : decode cX7_mergeField 43 = .ok (.iload_n 2, 1) := by decide +kernel
theorem dX7_mergeField_44 : decode cX7_mergeField 44 = .ok (.iload_n 3, 1) := by decide +kernel
theorem dX7_mergeField_45 : decode cX7_mergeField 45 = .ok (.if_icmp .ne 8, 3) := by decide +kernel
theorem dX7_mergeField_48 : decode cX7_mergeField 48 = .ok (.ldc 56, 2) := by decide +kernel
theorem dX7_mergeField_50 : decode cX7_mergeField 50 = .ok (.goto 19, 3) := by decide +kernel
theorem dX7_mergeField_53 : decode cX7_mergeField 53 = .ok (.aload_n 0, 1) := by decide +kernel
theorem dX7_mergeField_54 : decode cX7_mergeField 54 = .ok (.iload_n 1, 1) := by decide +kernel
theorem dX7_mergeField_55 : decode cX7_mergeField 55 = .ok (.iconst 4, 1) := by decide +kernel
theorem dX7_mergeField_56 : decode cX7_mergeField 56 = .ok (.iload_n 2, 1) := by decide +kernel
theorem dX7_mergeField_57 : decode cX7_mergeField 57 = .ok (.iload_n 3, 1) := by decide +kernel
theorem dX7_mergeField_58 : decode cX7_mergeField 58 = .ok (.iload 5, 2) := by decide +kernel
theorem dX7_mergeField_60 : decode cX7_mergeField 60 = .ok (.iconst 1, 1) := by decide +kernel
theorem dX7_mergeField_61 : decode cX7_mergeField 61 = .ok (.iload_n 2, 1) := by decide +kernel
theorem dX7_mergeField_62 : decode cX7_mergeField 62 = .ok (.ishl, 1) := by decide +kernel
theorem dX7_mergeField_63 : decode cX7_mergeField 63 = .ok (.iconst (-1), 1) := by decide +kernel
theorem dX7_mergeField_64 : decode cX7_mergeField 64 = .ok (.ixor, 1) := by decide +kernel
theorem dX7_mergeField_65 : decode cX7_mergeField 65 = .ok (.iand, 1) := by decide +kernel
theorem dX7_mergeField_66 : decode cX7_mergeField 66 = .ok (.invokevirtual 82, 3) := by decide +kernel
theorem dX7_mergeField_69 : decode cX7_mergeField 69 = .ok (.ireturn, 1) := by decide +kernel
set_option maxRecDepth 20000 in
theorem ggX7_activate_X7_wrongStage : GoodIn wsX7_activate wsX7_wrongStage := goodIn_r _ [6, 7, 8, 9, 10, 11, 5, 12, 13, 14, 15, 16, 17, 18, 19, 20, 1, 21, 22, 23, 28, 29, 30, 31, 32, 33, 34, 35, 36, 37, 38, 39] (by decide +kernel) (by decide +kernel)
set_option maxRecDepth 20000 in
theorem gX7_activate_X7_wrongStage : GoodIn wsX7_activate (wsV RX7 70 RX7 yX7_wrongStage wsX7_wrongStage) := goodIn_app (goodIn_of _ (by decide +kernel)) ggX7_activate_X7_wrongStage
set_option maxRecDepth 20000 in
theorem ggX7_activate_X7_at : GoodIn wsX7_activate wsX7_at := goodIn_r _ [23] (by decide +kernel) (by decide +kernel)
set_option maxRecDepth 20000 in
theorem gX7_activate_X7_at : GoodIn wsX7_activate (va_wsS RX7 49 yX7_at wsX7_at) := goodIn_app (goodIn_of _ (by decide +kernel)) ggX7_activate_X7_at
set_option maxRecDepth 20000 in
theorem ggX7_activate_X7_current : GoodIn wsX7_activate wsX7_current := goodIn_r _ [27, 17, 18, 19, 5, 20, 1, 21, 22, 23, 28, 29, 30, 31, 32, 33, 34, 35, 36, 37, 38, 39] (by decide +kernel) (by decide +kernel)
set_option maxRecDepth 20000 in
theorem gX7_activate_X7_current : GoodIn wsX7_activate (wsV RX7 62 RX7 yX7_current wsX7_current) := goodIn_app (goodIn_of _ (by decide +kernel)) ggX7_activate_X7_current
theorem dX7_activate_0 : decode cX7_activate 0 = .ok (.aload_n 0, 1) := by decide +kernel
theorem dX7_activate_1 : decode cX7_activate 1 = .ok (.iload_n 1, 1) := by decide +kernel
theorem dX7_activate_2 : decode cX7_activate 2 = .ok (.invokevirtual 70, 3) := by decide +kernel
theorem dX7_activate_5 : decode cX7_activate 5 = .ok (.istore_n 2, 1) := by decide +kernel
theorem dX7_activate_6 : decode cX7_activate 6 = .ok (.iload_n 2, 1) := by decide +kernel
theorem dX7_activate_7 : decode cX7_activate 7 = .ok (.ifCond .eq 5, 3) := by decide +kernel
theorem dX7_activate_10 : decode cX7_activate 10 = .ok (.iload_n 2, 1) := by decide +kernel
theorem dX7_activate_11 : decode cX7_activate 11 = .ok (.ireturn, 1) := by decide +kernel
theorem dX7_activate_12 : decode cX7_activate 12 = .ok (.aload_n 0, 1) := by decide +kernel
theorem dX7_activate_13 : decode cX7_activate 13 = .ok (.getfield 7, 3) := by decide +kernel
theorem dX7_activate_16 : decode cX7_activate 16 = .ok (.iload_n 1, 1) := by decide +kernel
theorem dX7_activate_17 : decode cX7_activate 17 = .ok (.iconst 1, 1) := by decide +kernel
theorem dX7_activate_18 : decode cX7_activate 18 = .ok (.invokestatic 49, 3) := by decide +kernel
theorem dX7_activate_21 : decode cX7_activate 21 = .ok (.iconst 0, 1) := by decide +kernel
theorem dX7_activate_22 : decode cX7_activate 22 = .ok (.iastore, 1) := by decide +kernel
theorem dX7_activate_23 : decode cX7_activate 23 = .ok (.aload_n 0, 1) := by decide +kernel
theorem dX7_activate_24 : decode cX7_activate 24 = .ok (.getfield 7, 3) := by decide +kernel
theorem dX7_activate_27 : decode cX7_activate 27 = .ok (.iload_n 1, 1) := by decide +kernel
theorem dX7_activate_28 : decode cX7_activate 28 = .ok (.iconst 0, 1) := by decide +kernel
theorem dX7_activate_29 : decode cX7_activate 29 = .ok (.invokestatic 49, 3) := by decide +kernel
theorem dX7_activate_32 : decode cX7_activate 32 = .ok (.dup2, 1) := by decide +kernel
theorem dX7_activate_33 : decode cX7_activate 33 = .ok (.iaload, 1) := by decide +kernel
theorem dX7_activate_34 : decode cX7_activate 34 = .ok (.iconst 1, 1) := by decide +kernel
theorem dX7_activate_35 : decode cX7_activate 35 = .ok (.iadd, 1) := by decide +kernel
theorem dX7_activate_36 : decode cX7_activate 36 = .ok (.iastore, 1) := by decide +kernel
theorem dX7_activate_37 : decode cX7_activate 37 = .ok (.aload_n 0, 1) := by decide +kernel
theorem dX7_activate_38 : decode cX7_activate 38 = .ok (.iload_n 1, 1) := by decide +kernel
theorem dX7_activate_39 : decode cX7_activate 39 = .ok (.invokevirtual 62, 3) := by decide +kernel
theorem dX7_activate_42 : decode cX7_activate 42 = .ok (.ireturn, 1) := by decide +kernel
set_option maxRecDepth 20000 in
theorem ggX7_discard_X7_wrongStage : GoodIn wsX7_discard wsX7_wrongStage := goodIn_r _ [6, 7, 8, 9, 10, 11, 5, 12, 13, 14, 15, 16, 17, 18, 19, 20, 1, 21, 22, 23, 24, 25, 26, 27, 28, 29, 30, 31, 32, 33, 34, 35] (by decide +kernel) (by decide +kernel)
set_option maxRecDepth 20000 in
theorem gX7_discard_X7_wrongStage : GoodIn wsX7_discard (wsV RX7 70 RX7 yX7_wrongStage wsX7_wrongStage) := goodIn_app (goodIn_of _ (by decide +kernel)) ggX7_discard_X7_wrongStage
set_option maxRecDepth 20000 in
theorem ggX7_discard_X7_at : GoodIn wsX7_discard wsX7_at := goodIn_r _ [23] (by decide +kernel) (by decide +kernel)
set_option maxRecDepth 20000 in
theorem gX7_discard_X7_at : GoodIn wsX7_discard (va_wsS RX7 49 yX7_at wsX7_at) := goodIn_app (goodIn_of _ (by decide +kernel)) ggX7_discard_X7_at
set_option maxRecDepth 20000 in
theorem ggX7_discard_X7_of : GoodIn wsX7_discard wsX7_of := goodIn_r _ [20, 1, 21, 22, 5, 23, 24, 25, 26, 27, 28, 29, 30, 31, 32, 33, 34, 35] (by decide +kernel) (by decide +kernel)
set_option maxRecDepth 20000 in
theorem gX7_discard_X7_of : GoodIn wsX7_discard (wsV RX7 53 RX7 yX7_of wsX7_of) := goodIn_app (goodIn_of _ (by decide +kernel)) ggX7_discard_X7_of
theorem dX7_discard_0 : decode cX7_discard 0 = .ok (.aload_n 0, 1) := by decide +kernel
theorem dX7_discard_1 : decode cX7_discard 1 = .ok (.iload_n 1, 1) := by decide +kernel
theorem dX7_discard_2 : decode cX7_discard 2 = .ok (.invokevirtual 70, 3) := by decide +kernel
theorem dX7_discard_5 : decode cX7_discard 5 = .ok (.istore_n 2, 1) := by decide +kernel
theorem dX7_discard_6 : decode cX7_discard 6 = .ok (.iload_n 2, 1) := by decide +kernel
theorem dX7_discard_7 : decode cX7_discard 7 = .ok (.ifCond .eq 5, 3) := by decide +kernel
theorem dX7_discard_10 : decode cX7_discard 10 = .ok (.iload_n 2, 1) := by decide +kernel
theorem dX7_discard_11 : decode cX7_discard 11 = .ok (.ireturn, 1) := by decide +kernel
theorem dX7_discard_12 : decode cX7_discard 12 = .ok (.aload_n 0, 1) := by decide +kernel
theorem dX7_discard_13 : decode cX7_discard 13 = .ok (.getfield 7, 3) := by decide +kernel
theorem dX7_discard_16 : decode cX7_discard 16 = .ok (.iload_n 1, 1) := by decide +kernel
theorem dX7_discard_17 : decode cX7_discard 17 = .ok (.iconst 1, 1) := by decide +kernel
theorem dX7_discard_18 : decode cX7_discard 18 = .ok (.invokestatic 49, 3) := by decide +kernel
theorem dX7_discard_21 : decode cX7_discard 21 = .ok (.iconst 0, 1) := by decide +kernel
theorem dX7_discard_22 : decode cX7_discard 22 = .ok (.iastore, 1) := by decide +kernel
theorem dX7_discard_23 : decode cX7_discard 23 = .ok (.aload_n 0, 1) := by decide +kernel
theorem dX7_discard_24 : decode cX7_discard 24 = .ok (.iload_n 1, 1) := by decide +kernel
theorem dX7_discard_25 : decode cX7_discard 25 = .ok (.bipush 10, 2) := by decide +kernel
theorem dX7_discard_27 : decode cX7_discard 27 = .ok (.aload_n 0, 1) := by decide +kernel
theorem dX7_discard_28 : decode cX7_discard 28 = .ok (.iload_n 1, 1) := by decide +kernel
theorem dX7_discard_29 : decode cX7_discard 29 = .ok (.iconst 0, 1) := by decide +kernel
theorem dX7_discard_30 : decode cX7_discard 30 = .ok (.invokevirtual 53, 3) := by decide +kernel
theorem dX7_discard_33 : decode cX7_discard 33 = .ok (.iadd, 1) := by decide +kernel
theorem dX7_discard_34 : decode cX7_discard 34 = .ok (.invokevirtual 53, 3) := by decide +kernel
theorem dX7_discard_37 : decode cX7_discard 37 = .ok (.ireturn, 1) := by decide +kernel
theorem dX7_isThere_0 : decode cX7_isThere 0 = .ok (.iload_n 1, 1) := by decide +kernel
theorem dX7_isThere_1 : decode cX7_isThere 1 = .ok (.bipush 8, 2) := by decide +kernel
theorem dX7_isThere_3 : decode cX7_isThere 3 = .ok (.irem, 1) := by decide +kernel
theorem dX7_isThere_4 : decode cX7_isThere 4 = .ok (.aload_n 0, 1) := by decide +kernel
theorem dX7_isThere_5 : decode cX7_isThere 5 = .ok (.getfield 13, 3) := by decide +kernel
theorem dX7_isThere_8 : decode cX7_isThere 8 = .ok (.iload_n 1, 1) := by decide +kernel
theorem dX7_isThere_9 : decode cX7_isThere 9 = .ok (.bipush 8, 2) := by decide +kernel
theorem dX7_isThere_11 : decode cX7_isThere 11 = .ok (.idiv, 1) := by decide +kernel
theorem dX7_isThere_12 : decode cX7_isThere 12 = .ok (.iaload, 1) := by decide +kernel
theorem dX7_isThere_13 : decode cX7_isThere 13 = .ok (.if_icmp .ge 7, 3) := by decide +kernel
theorem dX7_isThere_16 : decode cX7_isThere 16 = .ok (.iconst 1, 1) := by decide +kernel
theorem dX7_isThere_17 : decode cX7_isThere 17 = .ok (.goto 4, 3) := by decide +kernel
theorem dX7_isThere_20 : decode cX7_isThere 20 = .ok (.iconst 0, 1) := by decide +kernel
theorem dX7_isThere_21 : decode cX7_isThere 21 = .ok (.ireturn, 1) := by decide +kernel
set_option maxRecDepth 20000 in
theorem ggX7_runs_X7_isThere : GoodIn wsX7_runs wsX7_isThere := goodIn_r _ [7, 8, 9, 10, 11, 12, 13, 14, 15, 16, 17, 18, 19, 20] (by decide +kernel) (by decide +kernel)
set_option maxRecDepth 20000 in
theorem gX7_runs_X7_isThere : GoodIn wsX7_runs (wsV RX7 89 RX7 yX7_isThere wsX7_isThere) := goodIn_app (goodIn_of _ (by decide +kernel)) ggX7_runs_X7_isThere
theorem dX7_runs_0 : decode cX7_runs 0 = .ok (.iconst 0, 1) := by decide +kernel
theorem dX7_runs_1 : decode cX7_runs 1 = .ok (.istore_n 3, 1) := by decide +kernel
theorem dX7_runs_2 : decode cX7_runs 2 = .ok (.iconst 0, 1) := by decide +kernel
theorem dX7_runs_3 : decode cX7_runs 3 = .ok (.istore 4, 2) := by decide +kernel
theorem dX7_runs_5 : decode cX7_runs 5 = .ok (.iload 4, 2) := by decide +kernel
theorem dX7_runs_7 : decode cX7_runs 7 = .ok (.bipush 32, 2) := by decide +kernel
theorem dX7_runs_9 : decode cX7_runs 9 = .ok (.if_icmp .ge 50, 3) := by decide +kernel
theorem dX7_runs_12 : decode cX7_runs 12 = .ok (.iload_n 3, 1) := by decide +kernel
theorem dX7_runs_13 : decode cX7_runs 13 = .ok (.ifCond .ne 34, 3) := by decide +kernel
theorem dX7_runs_16 : decode cX7_runs 16 = .ok (.aload_n 0, 1) := by decide +kernel
theorem dX7_runs_17 : decode cX7_runs 17 = .ok (.iload 4, 2) := by decide +kernel
theorem dX7_runs_19 : decode cX7_runs 19 = .ok (.invokevirtual 89, 3) := by decide +kernel
theorem dX7_runs_22 : decode cX7_runs 22 = .ok (.ifCond .eq 29, 3) := by decide +kernel
theorem dX7_runs_25 : decode cX7_runs 25 = .ok (.aload_n 0, 1) := by decide +kernel
theorem dX7_runs_26 : decode cX7_runs 26 = .ok (.getfield 16, 3) := by decide +kernel
theorem dX7_runs_29 : decode cX7_runs 29 = .ok (.iload 4, 2) := by decide +kernel
theorem dX7_runs_31 : decode cX7_runs 31 = .ok (.iaload, 1) := by decide +kernel
theorem dX7_runs_32 : decode cX7_runs 32 = .ok (.iload_n 1, 1) := by decide +kernel
theorem dX7_runs_33 : decode cX7_runs 33 = .ok (.if_icmp .ne 18, 3) := by decide +kernel
theorem dX7_runs_36 : decode cX7_runs 36 = .ok (.aload_n 0, 1) := by decide +kernel
theorem dX7_runs_37 : decode cX7_runs 37 = .ok (.getfield 19, 3) := by decide +kernel
theorem dX7_runs_40 : decode cX7_runs 40 = .ok (.iload 4, 2) := by decide +kernel
theorem dX7_runs_42 : decode cX7_runs 42 = .ok (.iaload, 1) := by decide +kernel
theorem dX7_runs_43 : decode cX7_runs 43 = .ok (.iload_n 2, 1) := by decide +kernel
theorem dX7_runs_44 : decode cX7_runs 44 = .ok (.if_icmp .ne 7, 3) := by decide +kernel
theorem dX7_runs_47 : decode cX7_runs 47 = .ok (.iconst 1, 1) := by decide +kernel
theorem dX7_runs_48 : decode cX7_runs 48 = .ok (.goto 4, 3) := by decide +kernel
theorem dX7_runs_51 : decode cX7_runs 51 = .ok (.iconst 0, 1) := by decide +kernel
theorem dX7_runs_52 : decode cX7_runs 52 = .ok (.istore_n 3, 1) := by decide +kernel
theorem dX7_runs_53 : decode cX7_runs 53 = .ok (.iinc 4 1, 3) := by decide +kernel
theorem dX7_runs_56 : decode cX7_runs 56 = .ok (.goto (-51), 3) := by decide +kernel
theorem dX7_runs_59 : decode cX7_runs 59 = .ok (.iload_n 3, 1) := by decide +kernel
theorem dX7_runs_60 : decode cX7_runs 60 = .ok (.ireturn, 1) := by decide +kernel
theorem dX7_delete_0 : decode cX7_delete 0 = .ok (.aload_n 0, 1) := by decide +kernel
theorem dX7_delete_1 : decode cX7_delete 1 = .ok (.getfield 25, 3) := by decide +kernel
theorem dX7_delete_4 : decode cX7_delete 4 = .ok (.iload_n 1, 1) := by decide +kernel
theorem dX7_delete_5 : decode cX7_delete 5 = .ok (.iconst 0, 1) := by decide +kernel
theorem dX7_delete_6 : decode cX7_delete 6 = .ok (.bastore, 1) := by decide +kernel
theorem dX7_delete_7 : decode cX7_delete 7 = .ok (.iconst 0, 1) := by decide +kernel
theorem dX7_delete_8 : decode cX7_delete 8 = .ok (.istore_n 2, 1) := by decide +kernel
theorem dX7_delete_9 : decode cX7_delete 9 = .ok (.iload_n 2, 1) := by decide +kernel
theorem dX7_delete_10 : decode cX7_delete 10 = .ok (.bipush 32, 2) := by decide +kernel
theorem dX7_delete_12 : decode cX7_delete 12 = .ok (.if_icmp .ge 23, 3) := by decide +kernel
theorem dX7_delete_15 : decode cX7_delete 15 = .ok (.aload_n 0, 1) := by decide +kernel
theorem dX7_delete_16 : decode cX7_delete 16 = .ok (.getfield 22, 3) := by decide +kernel
theorem dX7_delete_19 : decode cX7_delete 19 = .ok (.iload_n 2, 1) := by decide +kernel
theorem dX7_delete_20 : decode cX7_delete 20 = .ok (.dup2, 1) := by decide +kernel
theorem dX7_delete_21 : decode cX7_delete 21 = .ok (.iaload, 1) := by decide +kernel
theorem dX7_delete_22 : decode cX7_delete 22 = .ok (.iconst 1, 1) := by decide +kernel
theorem dX7_delete_23 : decode cX7_delete 23 = .ok (.iload_n 1, 1) := by decide +kernel
theorem dX7_delete_24 : decode cX7_delete 24 = .ok (.ishl, 1) := by decide +kernel
theorem dX7_delete_25 : decode cX7_delete 25 = .ok (.iconst (-1), 1) := by decide +kernel
theorem dX7_delete_26 : decode cX7_delete 26 = .ok (.ixor, 1) := by decide +kernel
theorem dX7_delete_27 : decode cX7_delete 27 = .ok (.iand, 1) := by decide +kernel
theorem dX7_delete_28 : decode cX7_delete 28 = .ok (.iastore, 1) := by decide +kernel
theorem dX7_delete_29 : decode cX7_delete 29 = .ok (.iinc 2 1, 3) := by decide +kernel
theorem dX7_delete_32 : decode cX7_delete 32 = .ok (.goto (-23), 3) := by decide +kernel
theorem dX7_delete_35 : decode cX7_delete 35 = .ok (.return_, 1) := by decide +kernel
set_option maxRecDepth 20000 in
theorem ggX7_rollback_X7_isClass : GoodIn wsX7_rollback wsX7_isClass := goodIn_r _ [14, 15, 16, 17, 13, 18, 46, 47, 48, 49, 50, 51, 52, 53, 54, 55, 56, 57] (by decide +kernel) (by decide +kernel)
set_option maxRecDepth 20000 in
theorem gX7_rollback_X7_isClass : GoodIn wsX7_rollback (wsV RX7 58 RX7 yX7_isClass wsX7_isClass) := goodIn_app (goodIn_of _ (by decide +kernel)) ggX7_rollback_X7_isClass
set_option maxRecDepth 20000 in
theorem ggX7_rollback_X7_current : GoodIn wsX7_rollback wsX7_current := goodIn_r _ [22, 23, 24, 25, 13, 26, 9, 27, 28, 29, 46, 47, 48, 49, 50, 51, 52, 53, 54, 55, 56, 57] (by decide +kernel) (by decide +kernel)
set_option maxRecDepth 20000 in
theorem gX7_rollback_X7_current : GoodIn wsX7_rollback (wsV RX7 62 RX7 yX7_current wsX7_current) := goodIn_app (goodIn_of _ (by decide +kernel)) ggX7_rollback_X7_current
set_option maxRecDepth 20000 in
theorem ggX7_rollback_X7_runs : GoodIn wsX7_rollback wsX7_runs := goodIn_r _ [33, 34, 35, 36, 37, 38, 13, 39, 40, 46, 47, 48, 49, 50, 51, 52, 53, 54, 55, 56, 57] (by decide +kernel) (by decide +kernel)
set_option maxRecDepth 20000 in
theorem gX7_rollback_X7_runs : GoodIn wsX7_rollback (wsV RX7 92 RX7 yX7_runs wsX7_runs) := goodIn_app (goodIn_of _ (by decide +kernel)) ggX7_rollback_X7_runs
set_option maxRecDepth 20000 in
theorem ggX7_rollback_X7_delete : GoodIn wsX7_rollback wsX7_delete := goodIn_r _ [44, 5, 45, 46, 47, 48, 49, 50, 51, 52, 53, 54, 55, 56, 57] (by decide +kernel) (by decide +kernel)
set_option maxRecDepth 20000 in
theorem gX7_rollback_X7_delete : GoodIn wsX7_rollback (wsV RX7 99 RX7 yX7_delete wsX7_delete) := goodIn_app (goodIn_of _ (by decide +kernel)) ggX7_rollback_X7_delete
set_option maxRecDepth 20000 in
theorem ggX7_rollback_X7_at : GoodIn wsX7_rollback wsX7_at := goodIn_r _ [29] (by decide +kernel) (by decide +kernel)
set_option maxRecDepth 20000 in
theorem gX7_rollback_X7_at : GoodIn wsX7_rollback (va_wsS RX7 49 yX7_at wsX7_at) := goodIn_app (goodIn_of _ (by decide +kernel)) ggX7_rollback_X7_at
theorem dX7_rollback_0 : decode cX7_rollback 0 = .ok (.aload_n 0, 1) := by decide +kernel
theorem dX7_rollback_1 : decode cX7_rollback 1 = .ok (.iload_n 1, 1) := by decide +kernel
theorem dX7_rollback_2 : decode cX7_rollback 2 = .ok (.invokevirtual 58, 3) := by decide +kernel
theorem dX7_rollback_5 : decode cX7_rollback 5 = .ok (.ifCond .ne 6, 3) := by decide +kernel
theorem dX7_rollback_8 : decode cX7_rollback 8 = .ok (.ldc 66, 2) := by decide +kernel
theorem dX7_rollback_10 : decode cX7_rollback 10 = .ok (.ireturn, 1) := by decide +kernel
theorem dX7_rollback_11 : decode cX7_rollback 11 = .ok (.aload_n 0, 1) := by decide +kernel
theorem dX7_rollback_12 : decode cX7_rollback 12 = .ok (.iload_n 1, 1) := by decide +kernel
theorem dX7_rollback_13 : decode cX7_rollback 13 = .ok (.invokevirtual 62, 3) := by decide +kernel
theorem dX7_rollback_16 : decode cX7_rollback 16 = .ok (.istore_n 2, 1) := by decide +kernel
theorem dX7_rollback_17 : decode cX7_rollback 17 = .ok (.iload_n 2, 1) := by decide +kernel
theorem dX7_rollback_18 : decode cX7_rollback 18 = .ok (.ifCond .ne 6, 3) := by decide +kernel
theorem dX7_rollback_21 : decode cX7_rollback 21 = .ok (.ldc 67, 2) := by decide +kernel
theorem dX7_rollback_23 : decode cX7_rollback 23 = .ok (.ireturn, 1) := by decide +kernel
theorem dX7_rollback_24 : decode cX7_rollback 24 = .ok (.aload_n 0, 1) := by decide +kernel
theorem dX7_rollback_25 : decode cX7_rollback 25 = .ok (.iload_n 1, 1) := by decide +kernel
theorem dX7_rollback_26 : decode cX7_rollback 26 = .ok (.iload_n 2, 1) := by decide +kernel
theorem dX7_rollback_27 : decode cX7_rollback 27 = .ok (.invokevirtual 92, 3) := by decide +kernel
theorem dX7_rollback_30 : decode cX7_rollback 30 = .ok (.ifCond .eq 6, 3) := by decide +kernel
theorem dX7_rollback_33 : decode cX7_rollback 33 = .ok (.ldc 95, 2) := by decide +kernel
theorem dX7_rollback_35 : decode cX7_rollback 35 = .ok (.ireturn, 1) := by decide +kernel
theorem dX7_rollback_36 : decode cX7_rollback 36 = .ok (.iconst 0, 1) := by decide +kernel
theorem dX7_rollback_37 : decode cX7_rollback 37 = .ok (.istore_n 3, 1) := by decide +kernel
theorem dX7_rollback_38 : decode cX7_rollback 38 = .ok (.iload_n 3, 1) := by decide +kernel
theorem dX7_rollback_39 : decode cX7_rollback 39 = .ok (.aload_n 0, 1) := by decide +kernel
theorem dX7_rollback_40 : decode cX7_rollback 40 = .ok (.getfield 96, 3) := by decide +kernel
theorem dX7_rollback_43 : decode cX7_rollback 43 = .ok (.if_icmp .ge 66, 3) := by decide +kernel
theorem dX7_rollback_46 : decode cX7_rollback 46 = .ok (.aload_n 0, 1) := by decide +kernel
theorem dX7_rollback_47 : decode cX7_rollback 47 = .ok (.getfield 25, 3) := by decide +kernel
theorem dX7_rollback_50 : decode cX7_rollback 50 = .ok (.iload_n 3, 1) := by decide +kernel
theorem dX7_rollback_51 : decode cX7_rollback 51 = .ok (.baload, 1) := by decide +kernel
theorem dX7_rollback_52 : decode cX7_rollback 52 = .ok (.ifCond .eq 51, 3) := by decide +kernel
theorem dX7_rollback_55 : decode cX7_rollback 55 = .ok (.aload_n 0, 1) := by decide +kernel
theorem dX7_rollback_56 : decode cX7_rollback 56 = .ok (.getfield 29, 3) := by decide +kernel
theorem dX7_rollback_59 : decode cX7_rollback 59 = .ok (.iload_n 3, 1) := by decide +kernel
theorem dX7_rollback_60 : decode cX7_rollback 60 = .ok (.iaload, 1) := by decide +kernel
theorem dX7_rollback_61 : decode cX7_rollback 61 = .ok (.iload_n 1, 1) := by decide +kernel
theorem dX7_rollback_62 : decode cX7_rollback 62 = .ok (.if_icmp .ne 41, 3) := by decide +kernel
theorem dX7_rollback_65 : decode cX7_rollback 65 = .ok (.aload_n 0, 1) := by decide +kernel
theorem dX7_rollback_66 : decode cX7_rollback 66 = .ok (.getfield 32, 3) := by decide +kernel
theorem dX7_rollback_69 : decode cX7_rollback 69 = .ok (.iload_n 3, 1) := by decide +kernel
theorem dX7_rollback_70 : decode cX7_rollback 70 = .ok (.iaload, 1) := by decide +kernel
theorem dX7_rollback_71 : decode cX7_rollback 71 = .ok (.iload_n 2, 1) := by decide +kernel
theorem dX7_rollback_72 : decode cX7_rollback 72 = .ok (.if_icmp .ne 31, 3) := by decide +kernel
theorem dX7_rollback_75 : decode cX7_rollback 75 = .ok (.aload_n 0, 1) := by decide +kernel
theorem dX7_rollback_76 : decode cX7_rollback 76 = .ok (.getfield 35, 3) := by decide +kernel
theorem dX7_rollback_79 : decode cX7_rollback 79 = .ok (.iload_n 3, 1) := by decide +kernel
theorem dX7_rollback_80 : decode cX7_rollback 80 = .ok (.iaload, 1) := by decide +kernel
theorem dX7_rollback_81 : decode cX7_rollback 81 = .ok (.iload_n 2, 1) := by decide +kernel
theorem dX7_rollback_82 : decode cX7_rollback 82 = .ok (.if_icmp .ne 11, 3) := by decide +kernel
theorem dX7_rollback_85 : decode cX7_rollback 85 = .ok (.aload_n 0, 1) := by decide +kernel
theorem dX7_rollback_86 : decode cX7_rollback 86 = .ok (.iload_n 3, 1) := by decide +kernel
theorem dX7_rollback_87 : decode cX7_rollback 87 = .ok (.invokevirtual 99, 3) := by decide +kernel
theorem dX7_rollback_90 : decode cX7_rollback 90 = .ok (.goto 13, 3) := by decide +kernel
theorem dX7_rollback_93 : decode cX7_rollback 93 = .ok (.aload_n 0, 1) := by decide +kernel
theorem dX7_rollback_94 : decode cX7_rollback 94 = .ok (.getfield 32, 3) := by decide +kernel
theorem dX7_rollback_97 : decode cX7_rollback 97 = .ok (.iload_n 3, 1) := by decide +kernel
theorem dX7_rollback_98 : decode cX7_rollback 98 = .ok (.dup2, 1) := by decide +kernel
theorem dX7_rollback_99 : decode cX7_rollback 99 = .ok (.iaload, 1) := by decide +kernel
theorem dX7_rollback_100 : decode cX7_rollback 100 = .ok (.iconst 1, 1) := by decide +kernel
theorem dX7_rollback_101 : decode cX7_rollback 101 = .ok (.isub, 1) := by decide +kernel
theorem dX7_rollback_102 : decode cX7_rollback 102 = .ok (.iastore, 1) := by decide +kernel
theorem dX7_rollback_103 : decode cX7_rollback 103 = .ok (.iinc 3 1, 3) := by decide +kernel
theorem dX7_rollback_106 : decode cX7_rollback 106 = .ok (.goto (-68), 3) := by decide +kernel
theorem dX7_rollback_109 : decode cX7_rollback 109 = .ok (.aload_n 0, 1) := by decide +kernel
theorem dX7_rollback_110 : decode cX7_rollback 110 = .ok (.getfield 7, 3) := by decide +kernel
theorem dX7_rollback_113 : decode cX7_rollback 113 = .ok (.iload_n 1, 1) := by decide +kernel
theorem dX7_rollback_114 : decode cX7_rollback 114 = .ok (.iconst 1, 1) := by decide +kernel
theorem dX7_rollback_115 : decode cX7_rollback 115 = .ok (.invokestatic 49, 3) := by decide +kernel
theorem dX7_rollback_118 : decode cX7_rollback 118 = .ok (.iconst 0, 1) := by decide +kernel
theorem dX7_rollback_119 : decode cX7_rollback 119 = .ok (.iastore, 1) := by decide +kernel
theorem dX7_rollback_120 : decode cX7_rollback 120 = .ok (.aload_n 0, 1) := by decide +kernel
theorem dX7_rollback_121 : decode cX7_rollback 121 = .ok (.getfield 7, 3) := by decide +kernel
theorem dX7_rollback_124 : decode cX7_rollback 124 = .ok (.iload_n 1, 1) := by decide +kernel
theorem dX7_rollback_125 : decode cX7_rollback 125 = .ok (.iconst 0, 1) := by decide +kernel
theorem dX7_rollback_126 : decode cX7_rollback 126 = .ok (.invokestatic 49, 3) := by decide +kernel
theorem dX7_rollback_129 : decode cX7_rollback 129 = .ok (.dup2, 1) := by decide +kernel
theorem dX7_rollback_130 : decode cX7_rollback 130 = .ok (.iaload, 1) := by decide +kernel
theorem dX7_rollback_131 : decode cX7_rollback 131 = .ok (.iconst 1, 1) := by decide +kernel
theorem dX7_rollback_132 : decode cX7_rollback 132 = .ok (.isub, 1) := by decide +kernel
theorem dX7_rollback_133 : decode cX7_rollback 133 = .ok (.iastore, 1) := by decide +kernel
theorem dX7_rollback_134 : decode cX7_rollback 134 = .ok (.aload_n 0, 1) := by decide +kernel
theorem dX7_rollback_135 : decode cX7_rollback 135 = .ok (.iload_n 1, 1) := by decide +kernel
theorem dX7_rollback_136 : decode cX7_rollback 136 = .ok (.invokevirtual 62, 3) := by decide +kernel
theorem dX7_rollback_139 : decode cX7_rollback 139 = .ok (.ireturn, 1) := by decide +kernel
set_option maxRecDepth 20000 in
theorem ggX7_isThread_X7_in : GoodIn wsX7_isThread wsX7_in := goodIn_r _ [4] (by decide +kernel) (by decide +kernel)
set_option maxRecDepth 20000 in
theorem gX7_isThread_X7_in : GoodIn wsX7_isThread (va_wsS RX7 45 yX7_in wsX7_in) := goodIn_app (goodIn_of _ (by decide +kernel)) ggX7_isThread_X7_in
theorem dX7_isThread_0 : decode cX7_isThread 0 = .ok (.iload_n 0, 1) := by decide +kernel
theorem dX7_isThread_1 : decode cX7_isThread 1 = .ok (.iconst 0, 1) := by decide +kernel
theorem dX7_isThread_2 : decode cX7_isThread 2 = .ok (.iconst 3, 1) := by decide +kernel
theorem dX7_isThread_3 : decode cX7_isThread 3 = .ok (.invokestatic 45, 3) := by decide +kernel
theorem dX7_isThread_6 : decode cX7_isThread 6 = .ok (.ireturn, 1) := by decide +kernel
set_option maxRecDepth 20000 in
theorem ggX7_call_X7_isThread : GoodIn wsX7_call wsX7_isThread := goodIn_r _ [11, 12, 13, 10, 14] (by decide +kernel) (by decide +kernel)
set_option maxRecDepth 20000 in
theorem gX7_call_X7_isThread : GoodIn wsX7_call (va_wsS RX7 103 yX7_isThread wsX7_isThread) := goodIn_app (goodIn_of _ (by decide +kernel)) ggX7_call_X7_isThread
set_option maxRecDepth 20000 in
theorem ggX7_call_X7_isClass : GoodIn wsX7_call wsX7_isClass := goodIn_r _ [18, 19, 12, 13, 10, 14, 32, 33, 34, 35, 36, 37, 38, 39, 40, 41, 42, 43] (by decide +kernel) (by decide +kernel)
set_option maxRecDepth 20000 in
theorem gX7_call_X7_isClass : GoodIn wsX7_call (wsV RX7 58 RX7 yX7_isClass wsX7_isClass) := goodIn_app (goodIn_of _ (by decide +kernel)) ggX7_call_X7_isClass
set_option maxRecDepth 20000 in
theorem ggX7_call_X7_current : GoodIn wsX7_call wsX7_current := goodIn_r _ [23, 24, 25, 26, 10, 27, 28, 29, 30, 31, 32, 33, 34, 35, 36, 37, 38, 39, 40, 41, 42, 43] (by decide +kernel) (by decide +kernel)
set_option maxRecDepth 20000 in
theorem gX7_call_X7_current : GoodIn wsX7_call (wsV RX7 62 RX7 yX7_current wsX7_current) := goodIn_app (goodIn_of _ (by decide +kernel)) ggX7_call_X7_current
theorem dX7_call_0 : decode cX7_call 0 = .ok (.iload_n 1, 1) := by decide +kernel
theorem dX7_call_1 : decode cX7_call 1 = .ok (.invokestatic 103, 3) := by decide +kernel
theorem dX7_call_4 : decode cX7_call 4 = .ok (.ifCond .ne 6, 3) := by decide +kernel
theorem dX7_call_7 : decode cX7_call 7 = .ok (.ldc 106, 2) := by decide +kernel
theorem dX7_call_9 : decode cX7_call 9 = .ok (.ireturn, 1) := by decide +kernel
theorem dX7_call_10 : decode cX7_call 10 = .ok (.aload_n 0, 1) := by decide +kernel
theorem dX7_call_11 : decode cX7_call 11 = .ok (.iload_n 2, 1) := by decide +kernel
theorem dX7_call_12 : decode cX7_call 12 = .ok (.invokevirtual 58, 3) := by decide +kernel
theorem dX7_call_15 : decode cX7_call 15 = .ok (.ifCond .ne 6, 3) := by decide +kernel
theorem dX7_call_18 : decode cX7_call 18 = .ok (.ldc 66, 2) := by decide +kernel
theorem dX7_call_20 : decode cX7_call 20 = .ok (.ireturn, 1) := by decide +kernel
theorem dX7_call_21 : decode cX7_call 21 = .ok (.aload_n 0, 1) := by decide +kernel
theorem dX7_call_22 : decode cX7_call 22 = .ok (.getfield 13, 3) := by decide +kernel
theorem dX7_call_25 : decode cX7_call 25 = .ok (.iload_n 1, 1) := by decide +kernel
theorem dX7_call_26 : decode cX7_call 26 = .ok (.iaload, 1) := by decide +kernel
theorem dX7_call_27 : decode cX7_call 27 = .ok (.bipush 8, 2) := by decide +kernel
theorem dX7_call_29 : decode cX7_call 29 = .ok (.if_icmp .ne 6, 3) := by decide +kernel
theorem dX7_call_32 : decode cX7_call 32 = .ok (.ldc 57, 2) := by decide +kernel
theorem dX7_call_34 : decode cX7_call 34 = .ok (.ireturn, 1) := by decide +kernel
theorem dX7_call_35 : decode cX7_call 35 = .ok (.bipush 8, 2) := by decide +kernel
theorem dX7_call_37 : decode cX7_call 37 = .ok (.iload_n 1, 1) := by decide +kernel
theorem dX7_call_38 : decode cX7_call 38 = .ok (.imul, 1) := by decide +kernel
theorem dX7_call_39 : decode cX7_call 39 = .ok (.aload_n 0, 1) := by decide +kernel
theorem dX7_call_40 : decode cX7_call 40 = .ok (.getfield 13, 3) := by decide +kernel
theorem dX7_call_43 : decode cX7_call 43 = .ok (.iload_n 1, 1) := by decide +kernel
theorem dX7_call_44 : decode cX7_call 44 = .ok (.iaload, 1) := by decide +kernel
theorem dX7_call_45 : decode cX7_call 45 = .ok (.iadd, 1) := by decide +kernel
theorem dX7_call_46 : decode cX7_call 46 = .ok (.istore_n 3, 1) := by decide +kernel
theorem dX7_call_47 : decode cX7_call 47 = .ok (.aload_n 0, 1) := by decide +kernel
theorem dX7_call_48 : decode cX7_call 48 = .ok (.getfield 16, 3) := by decide +kernel
theorem dX7_call_51 : decode cX7_call 51 = .ok (.iload_n 3, 1) := by decide +kernel
theorem dX7_call_52 : decode cX7_call 52 = .ok (.iload_n 2, 1) := by decide +kernel
theorem dX7_call_53 : decode cX7_call 53 = .ok (.iastore, 1) := by decide +kernel
theorem dX7_call_54 : decode cX7_call 54 = .ok (.aload_n 0, 1) := by decide +kernel
theorem dX7_call_55 : decode cX7_call 55 = .ok (.getfield 19, 3) := by decide +kernel
theorem dX7_call_58 : decode cX7_call 58 = .ok (.iload_n 3, 1) := by decide +kernel
theorem dX7_call_59 : decode cX7_call 59 = .ok (.aload_n 0, 1) := by decide +kernel
theorem dX7_call_60 : decode cX7_call 60 = .ok (.iload_n 2, 1) := by decide +kernel
theorem dX7_call_61 : decode cX7_call 61 = .ok (.invokevirtual 62, 3) := by decide +kernel
theorem dX7_call_64 : decode cX7_call 64 = .ok (.iastore, 1) := by decide +kernel
theorem dX7_call_65 : decode cX7_call 65 = .ok (.aload_n 0, 1) := by decide +kernel
theorem dX7_call_66 : decode cX7_call 66 = .ok (.getfield 22, 3) := by decide +kernel
theorem dX7_call_69 : decode cX7_call 69 = .ok (.iload_n 3, 1) := by decide +kernel
theorem dX7_call_70 : decode cX7_call 70 = .ok (.iconst 0, 1) := by decide +kernel
theorem dX7_call_71 : decode cX7_call 71 = .ok (.iastore, 1) := by decide +kernel
theorem dX7_call_72 : decode cX7_call 72 = .ok (.aload_n 0, 1) := by decide +kernel
theorem dX7_call_73 : decode cX7_call 73 = .ok (.getfield 13, 3) := by decide +kernel
theorem dX7_call_76 : decode cX7_call 76 = .ok (.iload_n 1, 1) := by decide +kernel
theorem dX7_call_77 : decode cX7_call 77 = .ok (.dup2, 1) := by decide +kernel
theorem dX7_call_78 : decode cX7_call 78 = .ok (.iaload, 1) := by decide +kernel
theorem dX7_call_79 : decode cX7_call 79 = .ok (.iconst 1, 1) := by decide +kernel
theorem dX7_call_80 : decode cX7_call 80 = .ok (.iadd, 1) := by decide +kernel
theorem dX7_call_81 : decode cX7_call 81 = .ok (.iastore, 1) := by decide +kernel
theorem dX7_call_82 : decode cX7_call 82 = .ok (.aload_n 0, 1) := by decide +kernel
theorem dX7_call_83 : decode cX7_call 83 = .ok (.getfield 13, 3) := by decide +kernel
theorem dX7_call_86 : decode cX7_call 86 = .ok (.iload_n 1, 1) := by decide +kernel
theorem dX7_call_87 : decode cX7_call 87 = .ok (.iaload, 1) := by decide +kernel
theorem dX7_call_88 : decode cX7_call 88 = .ok (.ireturn, 1) := by decide +kernel
set_option maxRecDepth 20000 in
theorem ggX7_finish_X7_isThread : GoodIn wsX7_finish wsX7_isThread := goodIn_r _ [7, 8, 9, 6, 10] (by decide +kernel) (by decide +kernel)
set_option maxRecDepth 20000 in
theorem gX7_finish_X7_isThread : GoodIn wsX7_finish (va_wsS RX7 103 yX7_isThread wsX7_isThread) := goodIn_app (goodIn_of _ (by decide +kernel)) ggX7_finish_X7_isThread
theorem dX7_finish_0 : decode cX7_finish 0 = .ok (.iload_n 1, 1) := by decide +kernel
theorem dX7_finish_1 : decode cX7_finish 1 = .ok (.invokestatic 103, 3) := by decide +kernel
theorem dX7_finish_4 : decode cX7_finish 4 = .ok (.ifCond .ne 6, 3) := by decide +kernel
theorem dX7_finish_7 : decode cX7_finish 7 = .ok (.ldc 106, 2) := by decide +kernel
theorem dX7_finish_9 : decode cX7_finish 9 = .ok (.ireturn, 1) := by decide +kernel
theorem dX7_finish_10 : decode cX7_finish 10 = .ok (.aload_n 0, 1) := by decide +kernel
theorem dX7_finish_11 : decode cX7_finish 11 = .ok (.getfield 13, 3) := by decide +kernel
theorem dX7_finish_14 : decode cX7_finish 14 = .ok (.iload_n 1, 1) := by decide +kernel
theorem dX7_finish_15 : decode cX7_finish 15 = .ok (.iaload, 1) := by decide +kernel
theorem dX7_finish_16 : decode cX7_finish 16 = .ok (.ifCond .ne 6, 3) := by decide +kernel
theorem dX7_finish_19 : decode cX7_finish 19 = .ok (.ldc 107, 2) := by decide +kernel
theorem dX7_finish_21 : decode cX7_finish 21 = .ok (.ireturn, 1) := by decide +kernel
theorem dX7_finish_22 : decode cX7_finish 22 = .ok (.aload_n 0, 1) := by decide +kernel
theorem dX7_finish_23 : decode cX7_finish 23 = .ok (.getfield 13, 3) := by decide +kernel
theorem dX7_finish_26 : decode cX7_finish 26 = .ok (.iload_n 1, 1) := by decide +kernel
theorem dX7_finish_27 : decode cX7_finish 27 = .ok (.dup2, 1) := by decide +kernel
theorem dX7_finish_28 : decode cX7_finish 28 = .ok (.iaload, 1) := by decide +kernel
theorem dX7_finish_29 : decode cX7_finish 29 = .ok (.iconst 1, 1) := by decide +kernel
theorem dX7_finish_30 : decode cX7_finish 30 = .ok (.isub, 1) := by decide +kernel
theorem dX7_finish_31 : decode cX7_finish 31 = .ok (.iastore, 1) := by decide +kernel
theorem dX7_finish_32 : decode cX7_finish 32 = .ok (.aload_n 0, 1) := by decide +kernel
theorem dX7_finish_33 : decode cX7_finish 33 = .ok (.getfield 13, 3) := by decide +kernel
theorem dX7_finish_36 : decode cX7_finish 36 = .ok (.iload_n 1, 1) := by decide +kernel
theorem dX7_finish_37 : decode cX7_finish 37 = .ok (.iaload, 1) := by decide +kernel
theorem dX7_finish_38 : decode cX7_finish 38 = .ok (.ireturn, 1) := by decide +kernel
set_option maxRecDepth 20000 in
theorem ggX7_depth_X7_isThread : GoodIn wsX7_depth wsX7_isThread := goodIn_r _ [6, 7, 8, 5, 9] (by decide +kernel) (by decide +kernel)
set_option maxRecDepth 20000 in
theorem gX7_depth_X7_isThread : GoodIn wsX7_depth (va_wsS RX7 103 yX7_isThread wsX7_isThread) := goodIn_app (goodIn_of _ (by decide +kernel)) ggX7_depth_X7_isThread
theorem dX7_depth_0 : decode cX7_depth 0 = .ok (.iload_n 1, 1) := by decide +kernel
theorem dX7_depth_1 : decode cX7_depth 1 = .ok (.invokestatic 103, 3) := by decide +kernel
theorem dX7_depth_4 : decode cX7_depth 4 = .ok (.ifCond .eq 12, 3) := by decide +kernel
theorem dX7_depth_7 : decode cX7_depth 7 = .ok (.aload_n 0, 1) := by decide +kernel
theorem dX7_depth_8 : decode cX7_depth 8 = .ok (.getfield 13, 3) := by decide +kernel
theorem dX7_depth_11 : decode cX7_depth 11 = .ok (.iload_n 1, 1) := by decide +kernel
theorem dX7_depth_12 : decode cX7_depth 12 = .ok (.iaload, 1) := by decide +kernel
theorem dX7_depth_13 : decode cX7_depth 13 = .ok (.goto 5, 3) := by decide +kernel
theorem dX7_depth_16 : decode cX7_depth 16 = .ok (.ldc 106, 2) := by decide +kernel
theorem dX7_depth_18 : decode cX7_depth 18 = .ok (.ireturn, 1) := by decide +kernel
set_option maxRecDepth 20000 in
theorem ggX7_frameClass_X7_isThread : GoodIn wsX7_frameClass wsX7_isThread := goodIn_r _ [8, 9, 10, 7, 11] (by decide +kernel) (by decide +kernel)
set_option maxRecDepth 20000 in
theorem gX7_frameClass_X7_isThread : GoodIn wsX7_frameClass (va_wsS RX7 103 yX7_isThread wsX7_isThread) := goodIn_app (goodIn_of _ (by decide +kernel)) ggX7_frameClass_X7_isThread
set_option maxRecDepth 20000 in
theorem ggX7_frameClass_X7_in : GoodIn wsX7_frameClass wsX7_in := goodIn_r _ [11] (by decide +kernel) (by decide +kernel)
set_option maxRecDepth 20000 in
theorem gX7_frameClass_X7_in : GoodIn wsX7_frameClass (va_wsS RX7 45 yX7_in wsX7_in) := goodIn_app (goodIn_of _ (by decide +kernel)) ggX7_frameClass_X7_in
theorem dX7_frameClass_0 : decode cX7_frameClass 0 = .ok (.iload_n 1, 1) := by decide +kernel
theorem dX7_frameClass_1 : decode cX7_frameClass 1 = .ok (.invokestatic 103, 3) := by decide +kernel
theorem dX7_frameClass_4 : decode cX7_frameClass 4 = .ok (.ifCond .ne 6, 3) := by decide +kernel
theorem dX7_frameClass_7 : decode cX7_frameClass 7 = .ok (.ldc 106, 2) := by decide +kernel
theorem dX7_frameClass_9 : decode cX7_frameClass 9 = .ok (.ireturn, 1) := by decide +kernel
theorem dX7_frameClass_10 : decode cX7_frameClass 10 = .ok (.iload_n 2, 1) := by decide +kernel
theorem dX7_frameClass_11 : decode cX7_frameClass 11 = .ok (.iconst 0, 1) := by decide +kernel
theorem dX7_frameClass_12 : decode cX7_frameClass 12 = .ok (.aload_n 0, 1) := by decide +kernel
theorem dX7_frameClass_13 : decode cX7_frameClass 13 = .ok (.getfield 13, 3) := by decide +kernel
theorem dX7_frameClass_16 : decode cX7_frameClass 16 = .ok (.iload_n 1, 1) := by decide +kernel
theorem dX7_frameClass_17 : decode cX7_frameClass 17 = .ok (.iaload, 1) := by decide +kernel
theorem dX7_frameClass_18 : decode cX7_frameClass 18 = .ok (.iconst 1, 1) := by decide +kernel
theorem dX7_frameClass_19 : decode cX7_frameClass 19 = .ok (.isub, 1) := by decide +kernel
theorem dX7_frameClass_20 : decode cX7_frameClass 20 = .ok (.invokestatic 45, 3) := by decide +kernel
theorem dX7_frameClass_23 : decode cX7_frameClass 23 = .ok (.ifCond .eq 17, 3) := by decide +kernel
theorem dX7_frameClass_26 : decode cX7_frameClass 26 = .ok (.aload_n 0, 1) := by decide +kernel
theorem dX7_frameClass_27 : decode cX7_frameClass 27 = .ok (.getfield 16, 3) := by decide +kernel
theorem dX7_frameClass_30 : decode cX7_frameClass 30 = .ok (.bipush 8, 2) := by decide +kernel
theorem dX7_frameClass_32 : decode cX7_frameClass 32 = .ok (.iload_n 1, 1) := by decide +kernel
theorem dX7_frameClass_33 : decode cX7_frameClass 33 = .ok (.imul, 1) := by decide +kernel
theorem dX7_frameClass_34 : decode cX7_frameClass 34 = .ok (.iload_n 2, 1) := by decide +kernel
theorem dX7_frameClass_35 : decode cX7_frameClass 35 = .ok (.iadd, 1) := by decide +kernel
theorem dX7_frameClass_36 : decode cX7_frameClass 36 = .ok (.iaload, 1) := by decide +kernel
theorem dX7_frameClass_37 : decode cX7_frameClass 37 = .ok (.goto 5, 3) := by decide +kernel
theorem dX7_frameClass_40 : decode cX7_frameClass 40 = .ok (.ldc 107, 2) := by decide +kernel
theorem dX7_frameClass_42 : decode cX7_frameClass 42 = .ok (.ireturn, 1) := by decide +kernel
set_option maxRecDepth 20000 in
theorem ggX7_frameVersion_X7_isThread : GoodIn wsX7_frameVersion wsX7_isThread := goodIn_r _ [8, 9, 10, 7, 11] (by decide +kernel) (by decide +kernel)
set_option maxRecDepth 20000 in
theorem gX7_frameVersion_X7_isThread : GoodIn wsX7_frameVersion (va_wsS RX7 103 yX7_isThread wsX7_isThread) := goodIn_app (goodIn_of _ (by decide +kernel)) ggX7_frameVersion_X7_isThread
set_option maxRecDepth 20000 in
theorem ggX7_frameVersion_X7_in : GoodIn wsX7_frameVersion wsX7_in := goodIn_r _ [11] (by decide +kernel) (by decide +kernel)
set_option maxRecDepth 20000 in
theorem gX7_frameVersion_X7_in : GoodIn wsX7_frameVersion (va_wsS RX7 45 yX7_in wsX7_in) := goodIn_app (goodIn_of _ (by decide +kernel)) ggX7_frameVersion_X7_in
theorem dX7_frameVersion_0 : decode cX7_frameVersion 0 = .ok (.iload_n 1, 1) := by decide +kernel
theorem dX7_frameVersion_1 : decode cX7_frameVersion 1 = .ok (.invokestatic 103, 3) := by decide +kernel
theorem dX7_frameVersion_4 : decode cX7_frameVersion 4 = .ok (.ifCond .ne 6, 3) := by decide +kernel
theorem dX7_frameVersion_7 : decode cX7_frameVersion 7 = .ok (.ldc 106, 2) := by decide +kernel
theorem dX7_frameVersion_9 : decode cX7_frameVersion 9 = .ok (.ireturn, 1) := by decide +kernel
theorem dX7_frameVersion_10 : decode cX7_frameVersion 10 = .ok (.iload_n 2, 1) := by decide +kernel
theorem dX7_frameVersion_11 : decode cX7_frameVersion 11 = .ok (.iconst 0, 1) := by decide +kernel
theorem dX7_frameVersion_12 : decode cX7_frameVersion 12 = .ok (.aload_n 0, 1) := by decide +kernel
theorem dX7_frameVersion_13 : decode cX7_frameVersion 13 = .ok (.getfield 13, 3) := by decide +kernel
theorem dX7_frameVersion_16 : decode cX7_frameVersion 16 = .ok (.iload_n 1, 1) := by decide +kernel
theorem dX7_frameVersion_17 : decode cX7_frameVersion 17 = .ok (.iaload, 1) := by decide +kernel
theorem dX7_frameVersion_18 : decode cX7_frameVersion 18 = .ok (.iconst 1, 1) := by decide +kernel
theorem dX7_frameVersion_19 : decode cX7_frameVersion 19 = .ok (.isub, 1) := by decide +kernel
theorem dX7_frameVersion_20 : decode cX7_frameVersion 20 = .ok (.invokestatic 45, 3) := by decide +kernel
theorem dX7_frameVersion_23 : decode cX7_frameVersion 23 = .ok (.ifCond .eq 17, 3) := by decide +kernel
theorem dX7_frameVersion_26 : decode cX7_frameVersion 26 = .ok (.aload_n 0, 1) := by decide +kernel
theorem dX7_frameVersion_27 : decode cX7_frameVersion 27 = .ok (.getfield 19, 3) := by decide +kernel
theorem dX7_frameVersion_30 : decode cX7_frameVersion 30 = .ok (.bipush 8, 2) := by decide +kernel
theorem dX7_frameVersion_32 : decode cX7_frameVersion 32 = .ok (.iload_n 1, 1) := by decide +kernel
theorem dX7_frameVersion_33 : decode cX7_frameVersion 33 = .ok (.imul, 1) := by decide +kernel
theorem dX7_frameVersion_34 : decode cX7_frameVersion 34 = .ok (.iload_n 2, 1) := by decide +kernel
theorem dX7_frameVersion_35 : decode cX7_frameVersion 35 = .ok (.iadd, 1) := by decide +kernel
theorem dX7_frameVersion_36 : decode cX7_frameVersion 36 = .ok (.iaload, 1) := by decide +kernel
theorem dX7_frameVersion_37 : decode cX7_frameVersion 37 = .ok (.goto 5, 3) := by decide +kernel
theorem dX7_frameVersion_40 : decode cX7_frameVersion 40 = .ok (.ldc 107, 2) := by decide +kernel
theorem dX7_frameVersion_42 : decode cX7_frameVersion 42 = .ok (.ireturn, 1) := by decide +kernel
set_option maxRecDepth 20000 in
theorem ggX7_oldFrames_X7_isClass : GoodIn wsX7_oldFrames wsX7_isClass := goodIn_r _ [8, 9, 10, 11, 7, 12, 30, 31, 32, 33, 34, 35, 36, 37, 38, 39, 40, 41] (by decide +kernel) (by decide +kernel)
set_option maxRecDepth 20000 in
theorem gX7_oldFrames_X7_isClass : GoodIn wsX7_oldFrames (wsV RX7 58 RX7 yX7_isClass wsX7_isClass) := goodIn_app (goodIn_of _ (by decide +kernel)) ggX7_oldFrames_X7_isClass
set_option maxRecDepth 20000 in
theorem ggX7_oldFrames_X7_isThere : GoodIn wsX7_oldFrames wsX7_isThere := goodIn_r _ [16, 17, 30, 31, 32, 33, 34, 35, 36, 37, 38, 39, 40, 41] (by decide +kernel) (by decide +kernel)
set_option maxRecDepth 20000 in
theorem gX7_oldFrames_X7_isThere : GoodIn wsX7_oldFrames (wsV RX7 89 RX7 yX7_isThere wsX7_isThere) := goodIn_app (goodIn_of _ (by decide +kernel)) ggX7_oldFrames_X7_isThere
set_option maxRecDepth 20000 in
theorem ggX7_oldFrames_X7_current : GoodIn wsX7_oldFrames wsX7_current := goodIn_r _ [21, 22, 23, 24, 7, 25, 26, 27, 28, 29, 30, 31, 32, 33, 34, 35, 36, 37, 38, 39, 40, 41] (by decide +kernel) (by decide +kernel)
set_option maxRecDepth 20000 in
theorem gX7_oldFrames_X7_current : GoodIn wsX7_oldFrames (wsV RX7 62 RX7 yX7_current wsX7_current) := goodIn_app (goodIn_of _ (by decide +kernel)) ggX7_oldFrames_X7_current
theorem dX7_oldFrames_0 : decode cX7_oldFrames 0 = .ok (.aload_n 0, 1) := by decide +kernel
theorem dX7_oldFrames_1 : decode cX7_oldFrames 1 = .ok (.iload_n 1, 1) := by decide +kernel
theorem dX7_oldFrames_2 : decode cX7_oldFrames 2 = .ok (.invokevirtual 58, 3) := by decide +kernel
theorem dX7_oldFrames_5 : decode cX7_oldFrames 5 = .ok (.ifCond .ne 6, 3) := by decide +kernel
theorem dX7_oldFrames_8 : decode cX7_oldFrames 8 = .ok (.ldc 66, 2) := by decide +kernel
theorem dX7_oldFrames_10 : decode cX7_oldFrames 10 = .ok (.ireturn, 1) := by decide +kernel
theorem dX7_oldFrames_11 : decode cX7_oldFrames 11 = .ok (.iconst 0, 1) := by decide +kernel
theorem dX7_oldFrames_12 : decode cX7_oldFrames 12 = .ok (.istore_n 2, 1) := by decide +kernel
theorem dX7_oldFrames_13 : decode cX7_oldFrames 13 = .ok (.iconst 0, 1) := by decide +kernel
theorem dX7_oldFrames_14 : decode cX7_oldFrames 14 = .ok (.istore_n 3, 1) := by decide +kernel
theorem dX7_oldFrames_15 : decode cX7_oldFrames 15 = .ok (.iload_n 3, 1) := by decide +kernel
theorem dX7_oldFrames_16 : decode cX7_oldFrames 16 = .ok (.bipush 32, 2) := by decide +kernel
theorem dX7_oldFrames_18 : decode cX7_oldFrames 18 = .ok (.if_icmp .ge 49, 3) := by decide +kernel
theorem dX7_oldFrames_21 : decode cX7_oldFrames 21 = .ok (.iload_n 2, 1) := by decide +kernel
theorem dX7_oldFrames_22 : decode cX7_oldFrames 22 = .ok (.aload_n 0, 1) := by decide +kernel
theorem dX7_oldFrames_23 : decode cX7_oldFrames 23 = .ok (.iload_n 3, 1) := by decide +kernel
theorem dX7_oldFrames_24 : decode cX7_oldFrames 24 = .ok (.invokevirtual 89, 3) := by decide +kernel
theorem dX7_oldFrames_27 : decode cX7_oldFrames 27 = .ok (.ifCond .eq 31, 3) := by decide +kernel
theorem dX7_oldFrames_30 : decode cX7_oldFrames 30 = .ok (.aload_n 0, 1) := by decide +kernel
theorem dX7_oldFrames_31 : decode cX7_oldFrames 31 = .ok (.getfield 16, 3) := by decide +kernel
theorem dX7_oldFrames_34 : decode cX7_oldFrames 34 = .ok (.iload_n 3, 1) := by decide +kernel
theorem dX7_oldFrames_35 : decode cX7_oldFrames 35 = .ok (.iaload, 1) := by decide +kernel
theorem dX7_oldFrames_36 : decode cX7_oldFrames 36 = .ok (.iload_n 1, 1) := by decide +kernel
theorem dX7_oldFrames_37 : decode cX7_oldFrames 37 = .ok (.if_icmp .ne 21, 3) := by decide +kernel
theorem dX7_oldFrames_40 : decode cX7_oldFrames 40 = .ok (.aload_n 0, 1) := by decide +kernel
theorem dX7_oldFrames_41 : decode cX7_oldFrames 41 = .ok (.getfield 19, 3) := by decide +kernel
theorem dX7_oldFrames_44 : decode cX7_oldFrames 44 = .ok (.iload_n 3, 1) := by decide +kernel
theorem dX7_oldFrames_45 : decode cX7_oldFrames 45 = .ok (.iaload, 1) := by decide +kernel
theorem dX7_oldFrames_46 : decode cX7_oldFrames 46 = .ok (.aload_n 0, 1) := by decide +kernel
theorem dX7_oldFrames_47 : decode cX7_oldFrames 47 = .ok (.iload_n 1, 1) := by decide +kernel
theorem dX7_oldFrames_48 : decode cX7_oldFrames 48 = .ok (.invokevirtual 62, 3) := by decide +kernel
theorem dX7_oldFrames_51 : decode cX7_oldFrames 51 = .ok (.if_icmp .eq 7, 3) := by decide +kernel
theorem dX7_oldFrames_54 : decode cX7_oldFrames 54 = .ok (.iconst 1, 1) := by decide +kernel
theorem dX7_oldFrames_55 : decode cX7_oldFrames 55 = .ok (.goto 4, 3) := by decide +kernel
theorem dX7_oldFrames_58 : decode cX7_oldFrames 58 = .ok (.iconst 0, 1) := by decide +kernel
theorem dX7_oldFrames_59 : decode cX7_oldFrames 59 = .ok (.iadd, 1) := by decide +kernel
theorem dX7_oldFrames_60 : decode cX7_oldFrames 60 = .ok (.istore_n 2, 1) := by decide +kernel
theorem dX7_oldFrames_61 : decode cX7_oldFrames 61 = .ok (.iinc 3 1, 3) := by decide +kernel
theorem dX7_oldFrames_64 : decode cX7_oldFrames 64 = .ok (.goto (-49), 3) := by decide +kernel
theorem dX7_oldFrames_67 : decode cX7_oldFrames 67 = .ok (.iload_n 2, 1) := by decide +kernel
theorem dX7_oldFrames_68 : decode cX7_oldFrames 68 = .ok (.ireturn, 1) := by decide +kernel
theorem dX7_cell_0 : decode cX7_cell 0 = .ok (.bipush 64, 2) := by decide +kernel
theorem dX7_cell_2 : decode cX7_cell 2 = .ok (.iload_n 0, 1) := by decide +kernel
theorem dX7_cell_3 : decode cX7_cell 3 = .ok (.imul, 1) := by decide +kernel
theorem dX7_cell_4 : decode cX7_cell 4 = .ok (.bipush 8, 2) := by decide +kernel
theorem dX7_cell_6 : decode cX7_cell 6 = .ok (.iload_n 1, 1) := by decide +kernel
theorem dX7_cell_7 : decode cX7_cell 7 = .ok (.imul, 1) := by decide +kernel
theorem dX7_cell_8 : decode cX7_cell 8 = .ok (.iadd, 1) := by decide +kernel
theorem dX7_cell_9 : decode cX7_cell 9 = .ok (.iload_n 2, 1) := by decide +kernel
theorem dX7_cell_10 : decode cX7_cell 10 = .ok (.iadd, 1) := by decide +kernel
theorem dX7_cell_11 : decode cX7_cell 11 = .ok (.ireturn, 1) := by decide +kernel
set_option maxRecDepth 20000 in
theorem ggX7_isObject_X7_in : GoodIn wsX7_isObject wsX7_in := goodIn_r _ [6] (by decide +kernel) (by decide +kernel)
set_option maxRecDepth 20000 in
theorem gX7_isObject_X7_in : GoodIn wsX7_isObject (va_wsS RX7 45 yX7_in wsX7_in) := goodIn_app (goodIn_of _ (by decide +kernel)) ggX7_isObject_X7_in
theorem dX7_isObject_0 : decode cX7_isObject 0 = .ok (.iload_n 1, 1) := by decide +kernel
theorem dX7_isObject_1 : decode cX7_isObject 1 = .ok (.iconst 0, 1) := by decide +kernel
theorem dX7_isObject_2 : decode cX7_isObject 2 = .ok (.aload_n 0, 1) := by decide +kernel
theorem dX7_isObject_3 : decode cX7_isObject 3 = .ok (.getfield 96, 3) := by decide +kernel
theorem dX7_isObject_6 : decode cX7_isObject 6 = .ok (.iconst 1, 1) := by decide +kernel
theorem dX7_isObject_7 : decode cX7_isObject 7 = .ok (.isub, 1) := by decide +kernel
theorem dX7_isObject_8 : decode cX7_isObject 8 = .ok (.invokestatic 45, 3) := by decide +kernel
theorem dX7_isObject_11 : decode cX7_isObject 11 = .ok (.ifCond .eq 16, 3) := by decide +kernel
theorem dX7_isObject_14 : decode cX7_isObject 14 = .ok (.aload_n 0, 1) := by decide +kernel
theorem dX7_isObject_15 : decode cX7_isObject 15 = .ok (.getfield 25, 3) := by decide +kernel
theorem dX7_isObject_18 : decode cX7_isObject 18 = .ok (.iload_n 1, 1) := by decide +kernel
theorem dX7_isObject_19 : decode cX7_isObject 19 = .ok (.baload, 1) := by decide +kernel
theorem dX7_isObject_20 : decode cX7_isObject 20 = .ok (.ifCond .eq 7, 3) := by decide +kernel
theorem dX7_isObject_23 : decode cX7_isObject 23 = .ok (.iconst 1, 1) := by decide +kernel
theorem dX7_isObject_24 : decode cX7_isObject 24 = .ok (.goto 4, 3) := by decide +kernel
theorem dX7_isObject_27 : decode cX7_isObject 27 = .ok (.iconst 0, 1) := by decide +kernel
theorem dX7_isObject_28 : decode cX7_isObject 28 = .ok (.ireturn, 1) := by decide +kernel
set_option maxRecDepth 20000 in
theorem ggX7_create_X7_isThread : GoodIn wsX7_create wsX7_isThread := goodIn_r _ [17, 18, 19, 16, 20] (by decide +kernel) (by decide +kernel)
set_option maxRecDepth 20000 in
theorem gX7_create_X7_isThread : GoodIn wsX7_create (va_wsS RX7 103 yX7_isThread wsX7_isThread) := goodIn_app (goodIn_of _ (by decide +kernel)) ggX7_create_X7_isThread
set_option maxRecDepth 20000 in
theorem ggX7_create_X7_cell : GoodIn wsX7_create wsX7_cell := goodIn_r _ [23] (by decide +kernel) (by decide +kernel)
set_option maxRecDepth 20000 in
theorem gX7_create_X7_cell : GoodIn wsX7_create (va_wsS RX7 108 yX7_cell wsX7_cell) := goodIn_app (goodIn_of _ (by decide +kernel)) ggX7_create_X7_cell
theorem dX7_create_0 : decode cX7_create 0 = .ok (.iload_n 1, 1) := by decide +kernel
theorem dX7_create_1 : decode cX7_create 1 = .ok (.invokestatic 103, 3) := by decide +kernel
theorem dX7_create_4 : decode cX7_create 4 = .ok (.ifCond .ne 6, 3) := by decide +kernel
theorem dX7_create_7 : decode cX7_create 7 = .ok (.ldc 106, 2) := by decide +kernel
theorem dX7_create_9 : decode cX7_create 9 = .ok (.ireturn, 1) := by decide +kernel
theorem dX7_create_10 : decode cX7_create 10 = .ok (.aload_n 0, 1) := by decide +kernel
theorem dX7_create_11 : decode cX7_create 11 = .ok (.getfield 13, 3) := by decide +kernel
theorem dX7_create_14 : decode cX7_create 14 = .ok (.iload_n 1, 1) := by decide +kernel
theorem dX7_create_15 : decode cX7_create 15 = .ok (.iaload, 1) := by decide +kernel
theorem dX7_create_16 : decode cX7_create 16 = .ok (.ifCond .ne 6, 3) := by decide +kernel
theorem dX7_create_19 : decode cX7_create 19 = .ok (.ldc 107, 2) := by decide +kernel
theorem dX7_create_21 : decode cX7_create 21 = .ok (.ireturn, 1) := by decide +kernel
theorem dX7_create_22 : decode cX7_create 22 = .ok (.aload_n 0, 1) := by decide +kernel
theorem dX7_create_23 : decode cX7_create 23 = .ok (.getfield 96, 3) := by decide +kernel
theorem dX7_create_26 : decode cX7_create 26 = .ok (.bipush 24, 2) := by decide +kernel
theorem dX7_create_28 : decode cX7_create 28 = .ok (.if_icmp .ne 6, 3) := by decide +kernel
theorem dX7_create_31 : decode cX7_create 31 = .ok (.ldc 57, 2) := by decide +kernel
theorem dX7_create_33 : decode cX7_create 33 = .ok (.ireturn, 1) := by decide +kernel
theorem dX7_create_34 : decode cX7_create 34 = .ok (.bipush 8, 2) := by decide +kernel
theorem dX7_create_36 : decode cX7_create 36 = .ok (.iload_n 1, 1) := by decide +kernel
theorem dX7_create_37 : decode cX7_create 37 = .ok (.imul, 1) := by decide +kernel
theorem dX7_create_38 : decode cX7_create 38 = .ok (.aload_n 0, 1) := by decide +kernel
theorem dX7_create_39 : decode cX7_create 39 = .ok (.getfield 13, 3) := by decide +kernel
theorem dX7_create_42 : decode cX7_create 42 = .ok (.iload_n 1, 1) := by decide +kernel
theorem dX7_create_43 : decode cX7_create 43 = .ok (.iaload, 1) := by decide +kernel
theorem dX7_create_44 : decode cX7_create 44 = .ok (.iadd, 1) := by decide +kernel
theorem dX7_create_45 : decode cX7_create 45 = .ok (.iconst 1, 1) := by decide +kernel
theorem dX7_create_46 : decode cX7_create 46 = .ok (.isub, 1) := by decide +kernel
theorem dX7_create_47 : decode cX7_create 47 = .ok (.istore_n 2, 1) := by decide +kernel
theorem dX7_create_48 : decode cX7_create 48 = .ok (.aload_n 0, 1) := by decide +kernel
theorem dX7_create_49 : decode cX7_create 49 = .ok (.getfield 96, 3) := by decide +kernel
theorem dX7_create_52 : decode cX7_create 52 = .ok (.istore_n 3, 1) := by decide +kernel
theorem dX7_create_53 : decode cX7_create 53 = .ok (.aload_n 0, 1) := by decide +kernel
theorem dX7_create_54 : decode cX7_create 54 = .ok (.dup, 1) := by decide +kernel
theorem dX7_create_55 : decode cX7_create 55 = .ok (.getfield 96, 3) := by decide +kernel
theorem dX7_create_58 : decode cX7_create 58 = .ok (.iconst 1, 1) := by decide +kernel
theorem dX7_create_59 : decode cX7_create 59 = .ok (.iadd, 1) := by decide +kernel
theorem dX7_create_60 : decode cX7_create 60 = .ok (.putfield 96, 3) := by decide +kernel
theorem dX7_create_63 : decode cX7_create 63 = .ok (.aload_n 0, 1) := by decide +kernel
theorem dX7_create_64 : decode cX7_create 64 = .ok (.getfield 25, 3) := by decide +kernel
theorem dX7_create_67 : decode cX7_create 67 = .ok (.iload_n 3, 1) := by decide +kernel
theorem dX7_create_68 : decode cX7_create 68 = .ok (.iconst 1, 1) := by decide +kernel
theorem dX7_create_69 : decode cX7_create 69 = .ok (.bastore, 1) := by decide +kernel
theorem dX7_create_70 : decode cX7_create 70 = .ok (.aload_n 0, 1) := by decide +kernel
theorem dX7_create_71 : decode cX7_create 71 = .ok (.getfield 29, 3) := by decide +kernel
theorem dX7_create_74 : decode cX7_create 74 = .ok (.iload_n 3, 1) := by decide +kernel
theorem dX7_create_75 : decode cX7_create 75 = .ok (.aload_n 0, 1) := by decide +kernel
theorem dX7_create_76 : decode cX7_create 76 = .ok (.getfield 16, 3) := by decide +kernel
theorem dX7_create_79 : decode cX7_create 79 = .ok (.iload_n 2, 1) := by decide +kernel
theorem dX7_create_80 : decode cX7_create 80 = .ok (.iaload, 1) := by decide +kernel
theorem dX7_create_81 : decode cX7_create 81 = .ok (.iastore, 1) := by decide +kernel
theorem dX7_create_82 : decode cX7_create 82 = .ok (.aload_n 0, 1) := by decide +kernel
theorem dX7_create_83 : decode cX7_create 83 = .ok (.getfield 32, 3) := by decide +kernel
theorem dX7_create_86 : decode cX7_create 86 = .ok (.iload_n 3, 1) := by decide +kernel
theorem dX7_create_87 : decode cX7_create 87 = .ok (.aload_n 0, 1) := by decide +kernel
theorem dX7_create_88 : decode cX7_create 88 = .ok (.getfield 19, 3) := by decide +kernel
theorem dX7_create_91 : decode cX7_create 91 = .ok (.iload_n 2, 1) := by decide +kernel
theorem dX7_create_92 : decode cX7_create 92 = .ok (.iaload, 1) := by decide +kernel
theorem dX7_create_93 : decode cX7_create 93 = .ok (.iastore, 1) := by decide +kernel
theorem dX7_create_94 : decode cX7_create 94 = .ok (.aload_n 0, 1) := by decide +kernel
theorem dX7_create_95 : decode cX7_create 95 = .ok (.getfield 35, 3) := by decide +kernel
theorem dX7_create_98 : decode cX7_create 98 = .ok (.iload_n 3, 1) := by decide +kernel
theorem dX7_create_99 : decode cX7_create 99 = .ok (.aload_n 0, 1) := by decide +kernel
theorem dX7_create_100 : decode cX7_create 100 = .ok (.getfield 19, 3) := by decide +kernel
theorem dX7_create_103 : decode cX7_create 103 = .ok (.iload_n 2, 1) := by decide +kernel
theorem dX7_create_104 : decode cX7_create 104 = .ok (.iaload, 1) := by decide +kernel
theorem dX7_create_105 : decode cX7_create 105 = .ok (.iastore, 1) := by decide +kernel
theorem dX7_create_106 : decode cX7_create 106 = .ok (.iconst 0, 1) := by decide +kernel
theorem dX7_create_107 : decode cX7_create 107 = .ok (.istore 4, 2) := by decide +kernel
theorem dX7_create_109 : decode cX7_create 109 = .ok (.iload 4, 2) := by decide +kernel
theorem dX7_create_111 : decode cX7_create 111 = .ok (.bipush 8, 2) := by decide +kernel
theorem dX7_create_113 : decode cX7_create 113 = .ok (.if_icmp .ge 27, 3) := by decide +kernel
theorem dX7_create_116 : decode cX7_create 116 = .ok (.aload_n 0, 1) := by decide +kernel
theorem dX7_create_117 : decode cX7_create 117 = .ok (.getfield 38, 3) := by decide +kernel
theorem dX7_create_120 : decode cX7_create 120 = .ok (.iload_n 3, 1) := by decide +kernel
theorem dX7_create_121 : decode cX7_create 121 = .ok (.aload_n 0, 1) := by decide +kernel
theorem dX7_create_122 : decode cX7_create 122 = .ok (.getfield 32, 3) := by decide +kernel
theorem dX7_create_125 : decode cX7_create 125 = .ok (.iload_n 3, 1) := by decide +kernel
theorem dX7_create_126 : decode cX7_create 126 = .ok (.iaload, 1) := by decide +kernel
theorem dX7_create_127 : decode cX7_create 127 = .ok (.iload 4, 2) := by decide +kernel
theorem dX7_create_129 : decode cX7_create 129 = .ok (.invokestatic 108, 3) := by decide +kernel
theorem dX7_create_132 : decode cX7_create 132 = .ok (.iconst 0, 1) := by decide +kernel
theorem dX7_create_133 : decode cX7_create 133 = .ok (.iastore, 1) := by decide +kernel
theorem dX7_create_134 : decode cX7_create 134 = .ok (.iinc 4 1, 3) := by decide +kernel
theorem dX7_create_137 : decode cX7_create 137 = .ok (.goto (-28), 3) := by decide +kernel
theorem dX7_create_140 : decode cX7_create 140 = .ok (.aload_n 0, 1) := by decide +kernel
theorem dX7_create_141 : decode cX7_create 141 = .ok (.getfield 22, 3) := by decide +kernel
theorem dX7_create_144 : decode cX7_create 144 = .ok (.iload_n 2, 1) := by decide +kernel
theorem dX7_create_145 : decode cX7_create 145 = .ok (.dup2, 1) := by decide +kernel
theorem dX7_create_146 : decode cX7_create 146 = .ok (.iaload, 1) := by decide +kernel
theorem dX7_create_147 : decode cX7_create 147 = .ok (.iconst 1, 1) := by decide +kernel
theorem dX7_create_148 : decode cX7_create 148 = .ok (.iload_n 3, 1) := by decide +kernel
theorem dX7_create_149 : decode cX7_create 149 = .ok (.ishl, 1) := by decide +kernel
theorem dX7_create_150 : decode cX7_create 150 = .ok (.ior, 1) := by decide +kernel
theorem dX7_create_151 : decode cX7_create 151 = .ok (.iastore, 1) := by decide +kernel
theorem dX7_create_152 : decode cX7_create 152 = .ok (.iload_n 3, 1) := by decide +kernel
theorem dX7_create_153 : decode cX7_create 153 = .ok (.ireturn, 1) := by decide +kernel
set_option maxRecDepth 20000 in
theorem ggX7_convertOnce_X7_cell : GoodIn wsX7_convertOnce wsX7_cell := goodIn_r _ [13] (by decide +kernel) (by decide +kernel)
set_option maxRecDepth 20000 in
theorem gX7_convertOnce_X7_cell : GoodIn wsX7_convertOnce (va_wsS RX7 108 yX7_cell wsX7_cell) := goodIn_app (goodIn_of _ (by decide +kernel)) ggX7_convertOnce_X7_cell
set_option maxRecDepth 20000 in
theorem ggX7_convertOnce_X7_of : GoodIn wsX7_convertOnce wsX7_of := goodIn_r _ [17, 3, 18, 19, 12, 20, 24, 25, 26, 27, 28, 29, 30, 31, 32, 33, 34, 35] (by decide +kernel) (by decide +kernel)
set_option maxRecDepth 20000 in
theorem gX7_convertOnce_X7_of : GoodIn wsX7_convertOnce (wsV RX7 53 RX7 yX7_of wsX7_of) := goodIn_app (goodIn_of _ (by decide +kernel)) ggX7_convertOnce_X7_of
set_option maxRecDepth 20000 in
theorem ggX7_convertOnce_X7_at : GoodIn wsX7_convertOnce wsX7_at := goodIn_r _ [20] (by decide +kernel) (by decide +kernel)
set_option maxRecDepth 20000 in
theorem gX7_convertOnce_X7_at : GoodIn wsX7_convertOnce (va_wsS RX7 49 yX7_at wsX7_at) := goodIn_app (goodIn_of _ (by decide +kernel)) ggX7_convertOnce_X7_at
set_option maxRecDepth 20000 in
theorem ggX7_convertOnce_X7_in : GoodIn wsX7_convertOnce wsX7_in := goodIn_r _ [23] (by decide +kernel) (by decide +kernel)
set_option maxRecDepth 20000 in
theorem gX7_convertOnce_X7_in : GoodIn wsX7_convertOnce (va_wsS RX7 45 yX7_in wsX7_in) := goodIn_app (goodIn_of _ (by decide +kernel)) ggX7_convertOnce_X7_in
theorem dX7_convertOnce_0 : decode cX7_convertOnce 0 = .ok (.aload_n 0, 1) := by decide +kernel
theorem dX7_convertOnce_1 : decode cX7_convertOnce 1 = .ok (.getfield 29, 3) := by decide +kernel
theorem dX7_convertOnce_4 : decode cX7_convertOnce 4 = .ok (.iload_n 1, 1) := by decide +kernel
theorem dX7_convertOnce_5 : decode cX7_convertOnce 5 = .ok (.iaload, 1) := by decide +kernel
theorem dX7_convertOnce_6 : decode cX7_convertOnce 6 = .ok (.istore_n 3, 1) := by decide +kernel
theorem dX7_convertOnce_7 : decode cX7_convertOnce 7 = .ok (.iconst 0, 1) := by decide +kernel
theorem dX7_convertOnce_8 : decode cX7_convertOnce 8 = .ok (.istore 4, 2) := by decide +kernel
theorem dX7_convertOnce_10 : decode cX7_convertOnce 10 = .ok (.iload 4, 2) := by decide +kernel
theorem dX7_convertOnce_12 : decode cX7_convertOnce 12 = .ok (.bipush 8, 2) := by decide +kernel
theorem dX7_convertOnce_14 : decode cX7_convertOnce 14 = .ok (.if_icmp .ge 35, 3) := by decide +kernel
theorem dX7_convertOnce_17 : decode cX7_convertOnce 17 = .ok (.aload_n 0, 1) := by decide +kernel
theorem dX7_convertOnce_18 : decode cX7_convertOnce 18 = .ok (.getfield 38, 3) := by decide +kernel
theorem dX7_convertOnce_21 : decode cX7_convertOnce 21 = .ok (.iload_n 1, 1) := by decide +kernel
theorem dX7_convertOnce_22 : decode cX7_convertOnce 22 = .ok (.iload_n 2, 1) := by decide +kernel
theorem dX7_convertOnce_23 : decode cX7_convertOnce 23 = .ok (.iload 4, 2) := by decide +kernel
theorem dX7_convertOnce_25 : decode cX7_convertOnce 25 = .ok (.invokestatic 108, 3) := by decide +kernel
theorem dX7_convertOnce_28 : decode cX7_convertOnce 28 = .ok (.aload_n 0, 1) := by decide +kernel
theorem dX7_convertOnce_29 : decode cX7_convertOnce 29 = .ok (.getfield 38, 3) := by decide +kernel
theorem dX7_convertOnce_32 : decode cX7_convertOnce 32 = .ok (.iload_n 1, 1) := by decide +kernel
theorem dX7_convertOnce_33 : decode cX7_convertOnce 33 = .ok (.iload_n 2, 1) := by decide +kernel
theorem dX7_convertOnce_34 : decode cX7_convertOnce 34 = .ok (.iconst 1, 1) := by decide +kernel
theorem dX7_convertOnce_35 : decode cX7_convertOnce 35 = .ok (.isub, 1) := by decide +kernel
theorem dX7_convertOnce_36 : decode cX7_convertOnce 36 = .ok (.iload 4, 2) := by decide +kernel
theorem dX7_convertOnce_38 : decode cX7_convertOnce 38 = .ok (.invokestatic 108, 3) := by decide +kernel
theorem dX7_convertOnce_41 : decode cX7_convertOnce 41 = .ok (.iaload, 1) := by decide +kernel
theorem dX7_convertOnce_42 : decode cX7_convertOnce 42 = .ok (.iastore, 1) := by decide +kernel
theorem dX7_convertOnce_43 : decode cX7_convertOnce 43 = .ok (.iinc 4 1, 3) := by decide +kernel
theorem dX7_convertOnce_46 : decode cX7_convertOnce 46 = .ok (.goto (-36), 3) := by decide +kernel
theorem dX7_convertOnce_49 : decode cX7_convertOnce 49 = .ok (.iconst 0, 1) := by decide +kernel
theorem dX7_convertOnce_50 : decode cX7_convertOnce 50 = .ok (.istore 4, 2) := by decide +kernel
theorem dX7_convertOnce_52 : decode cX7_convertOnce 52 = .ok (.iload 4, 2) := by decide +kernel
theorem dX7_convertOnce_54 : decode cX7_convertOnce 54 = .ok (.aload_n 0, 1) := by decide +kernel
theorem dX7_convertOnce_55 : decode cX7_convertOnce 55 = .ok (.iload_n 3, 1) := by decide +kernel
theorem dX7_convertOnce_56 : decode cX7_convertOnce 56 = .ok (.bipush 10, 2) := by decide +kernel
theorem dX7_convertOnce_58 : decode cX7_convertOnce 58 = .ok (.iload_n 2, 1) := by decide +kernel
theorem dX7_convertOnce_59 : decode cX7_convertOnce 59 = .ok (.iadd, 1) := by decide +kernel
theorem dX7_convertOnce_60 : decode cX7_convertOnce 60 = .ok (.invokevirtual 53, 3) := by decide +kernel
theorem dX7_convertOnce_63 : decode cX7_convertOnce 63 = .ok (.if_icmp .ge 285, 3) := by decide +kernel
theorem dX7_convertOnce_66 : decode cX7_convertOnce 66 = .ok (.iload_n 3, 1) := by decide +kernel
theorem dX7_convertOnce_67 : decode cX7_convertOnce 67 = .ok (.bipush 18, 2) := by decide +kernel
theorem dX7_convertOnce_69 : decode cX7_convertOnce 69 = .ok (.bipush 18, 2) := by decide +kernel
theorem dX7_convertOnce_71 : decode cX7_convertOnce 71 = .ok (.iload_n 2, 1) := by decide +kernel
theorem dX7_convertOnce_72 : decode cX7_convertOnce 72 = .ok (.imul, 1) := by decide +kernel
theorem dX7_convertOnce_73 : decode cX7_convertOnce 73 = .ok (.iadd, 1) := by decide +kernel
theorem dX7_convertOnce_74 : decode cX7_convertOnce 74 = .ok (.iconst 3, 1) := by decide +kernel
theorem dX7_convertOnce_75 : decode cX7_convertOnce 75 = .ok (.iload 4, 2) := by decide +kernel
theorem dX7_convertOnce_77 : decode cX7_convertOnce 77 = .ok (.imul, 1) := by decide +kernel
theorem dX7_convertOnce_78 : decode cX7_convertOnce 78 = .ok (.iadd, 1) := by decide +kernel
theorem dX7_convertOnce_79 : decode cX7_convertOnce 79 = .ok (.invokestatic 49, 3) := by decide +kernel
theorem dX7_convertOnce_82 : decode cX7_convertOnce 82 = .ok (.istore 5, 2) := by decide +kernel
theorem dX7_convertOnce_84 : decode cX7_convertOnce 84 = .ok (.aload_n 0, 1) := by decide +kernel
theorem dX7_convertOnce_85 : decode cX7_convertOnce 85 = .ok (.getfield 7, 3) := by decide +kernel
theorem dX7_convertOnce_88 : decode cX7_convertOnce 88 = .ok (.iload 5, 2) := by decide +kernel
theorem dX7_convertOnce_90 : decode cX7_convertOnce 90 = .ok (.iconst 1, 1) := by decide +kernel
theorem dX7_convertOnce_91 : decode cX7_convertOnce 91 = .ok (.iadd, 1) := by decide +kernel
theorem dX7_convertOnce_92 : decode cX7_convertOnce 92 = .ok (.iaload, 1) := by decide +kernel
theorem dX7_convertOnce_93 : decode cX7_convertOnce 93 = .ok (.istore 6, 2) := by decide +kernel
theorem dX7_convertOnce_95 : decode cX7_convertOnce 95 = .ok (.aload_n 0, 1) := by decide +kernel
theorem dX7_convertOnce_96 : decode cX7_convertOnce 96 = .ok (.getfield 7, 3) := by decide +kernel
theorem dX7_convertOnce_99 : decode cX7_convertOnce 99 = .ok (.iload 5, 2) := by decide +kernel
theorem dX7_convertOnce_101 : decode cX7_convertOnce 101 = .ok (.iconst 2, 1) := by decide +kernel
theorem dX7_convertOnce_102 : decode cX7_convertOnce 102 = .ok (.iadd, 1) := by decide +kernel
theorem dX7_convertOnce_103 : decode cX7_convertOnce 103 = .ok (.iaload, 1) := by decide +kernel
theorem dX7_convertOnce_104 : decode cX7_convertOnce 104 = .ok (.istore 7, 2) := by decide +kernel
theorem dX7_convertOnce_106 : decode cX7_convertOnce 106 = .ok (.aload_n 0, 1) := by decide +kernel
theorem dX7_convertOnce_107 : decode cX7_convertOnce 107 = .ok (.getfield 7, 3) := by decide +kernel
theorem dX7_convertOnce_110 : decode cX7_convertOnce 110 = .ok (.iload 5, 2) := by decide +kernel
theorem dX7_convertOnce_112 : decode cX7_convertOnce 112 = .ok (.iaload, 1) := by decide +kernel
theorem dX7_convertOnce_113 : decode cX7_convertOnce 113 = .ok (.tableswitch 174 0 4 #[35, 174, 52, 79, 144], 35) := by decide +kernel
theorem dX7_convertOnce_148 : decode cX7_convertOnce 148 = .ok (.aload_n 0, 1) := by decide +kernel
theorem dX7_convertOnce_149 : decode cX7_convertOnce 149 = .ok (.getfield 38, 3) := by decide +kernel
theorem dX7_convertOnce_152 : decode cX7_convertOnce 152 = .ok (.iload_n 1, 1) := by decide +kernel
theorem dX7_convertOnce_153 : decode cX7_convertOnce 153 = .ok (.iload_n 2, 1) := by decide +kernel
theorem dX7_convertOnce_154 : decode cX7_convertOnce 154 = .ok (.iload 6, 2) := by decide +kernel
theorem dX7_convertOnce_156 : decode cX7_convertOnce 156 = .ok (.invokestatic 108, 3) := by decide +kernel
theorem dX7_convertOnce_159 : decode cX7_convertOnce 159 = .ok (.iload 7, 2) := by decide +kernel
theorem dX7_convertOnce_161 : decode cX7_convertOnce 161 = .ok (.iastore, 1) := by decide +kernel
theorem dX7_convertOnce_162 : decode cX7_convertOnce 162 = .ok (.goto 125, 3) := by decide +kernel
theorem dX7_convertOnce_165 : decode cX7_convertOnce 165 = .ok (.aload_n 0, 1) := by decide +kernel
theorem dX7_convertOnce_166 : decode cX7_convertOnce 166 = .ok (.getfield 38, 3) := by decide +kernel
theorem dX7_convertOnce_169 : decode cX7_convertOnce 169 = .ok (.iload_n 1, 1) := by decide +kernel
theorem dX7_convertOnce_170 : decode cX7_convertOnce 170 = .ok (.iload_n 2, 1) := by decide +kernel
theorem dX7_convertOnce_171 : decode cX7_convertOnce 171 = .ok (.iload 7, 2) := by decide +kernel
theorem dX7_convertOnce_173 : decode cX7_convertOnce 173 = .ok (.invokestatic 108, 3) := by decide +kernel
theorem dX7_convertOnce_176 : decode cX7_convertOnce 176 = .ok (.aload_n 0, 1) := by decide +kernel
theorem dX7_convertOnce_177 : decode cX7_convertOnce 177 = .ok (.getfield 38, 3) := by decide +kernel
theorem dX7_convertOnce_180 : decode cX7_convertOnce 180 = .ok (.iload_n 1, 1) := by decide +kernel
theorem dX7_convertOnce_181 : decode cX7_convertOnce 181 = .ok (.iload_n 2, 1) := by decide +kernel
theorem dX7_convertOnce_182 : decode cX7_convertOnce 182 = .ok (.iload 6, 2) := by decide +kernel
theorem dX7_convertOnce_184 : decode cX7_convertOnce 184 = .ok (.invokestatic 108, 3) := by decide +kernel
theorem dX7_convertOnce_187 : decode cX7_convertOnce 187 = .ok (.iaload, 1) := by decide +kernel
theorem dX7_convertOnce_188 : decode cX7_convertOnce 188 = .ok (.iastore, 1) := by decide +kernel
theorem dX7_convertOnce_189 : decode cX7_convertOnce 189 = .ok (.goto 98, 3) := by decide +kernel
theorem dX7_convertOnce_192 : decode cX7_convertOnce 192 = .ok (.aload_n 0, 1) := by decide +kernel
theorem dX7_convertOnce_193 : decode cX7_convertOnce 193 = .ok (.getfield 38, 3) := by decide +kernel
theorem dX7_convertOnce_196 : decode cX7_convertOnce 196 = .ok (.iload_n 1, 1) := by decide +kernel
theorem dX7_convertOnce_197 : decode cX7_convertOnce 197 = .ok (.iload_n 2, 1) := by decide +kernel
theorem dX7_convertOnce_198 : decode cX7_convertOnce 198 = .ok (.iload 6, 2) := by decide +kernel
theorem dX7_convertOnce_200 : decode cX7_convertOnce 200 = .ok (.invokestatic 108, 3) := by decide +kernel
theorem dX7_convertOnce_203 : decode cX7_convertOnce 203 = .ok (.iaload, 1) := by decide +kernel
theorem dX7_convertOnce_204 : decode cX7_convertOnce 204 = .ok (.i2l, 1) := by decide +kernel
theorem dX7_convertOnce_205 : decode cX7_convertOnce 205 = .ok (.iload 7, 2) := by decide +kernel
theorem dX7_convertOnce_207 : decode cX7_convertOnce 207 = .ok (.i2l, 1) := by decide +kernel
theorem dX7_convertOnce_208 : decode cX7_convertOnce 208 = .ok (.lmul, 1) := by decide +kernel
theorem dX7_convertOnce_209 : decode cX7_convertOnce 209 = .ok (.lstore 8, 2) := by decide +kernel
theorem dX7_convertOnce_211 : decode cX7_convertOnce 211 = .ok (.aload_n 0, 1) := by decide +kernel
theorem dX7_convertOnce_212 : decode cX7_convertOnce 212 = .ok (.getfield 38, 3) := by decide +kernel
theorem dX7_convertOnce_215 : decode cX7_convertOnce 215 = .ok (.iload_n 1, 1) := by decide +kernel
theorem dX7_convertOnce_216 : decode cX7_convertOnce 216 = .ok (.iload_n 2, 1) := by decide +kernel
theorem dX7_convertOnce_217 : decode cX7_convertOnce 217 = .ok (.iload 6, 2) := by decide +kernel
theorem dX7_convertOnce_219 : decode cX7_convertOnce 219 = .ok (.invokestatic 108, 3) := by decide +kernel
theorem dX7_convertOnce_222 : decode cX7_convertOnce 222 = .ok (.lload 8, 2) := by decide +kernel
theorem dX7_convertOnce_224 : decode cX7_convertOnce 224 = .ok (.ldc2_w 112, 3) := by decide +kernel
theorem dX7_convertOnce_227 : decode cX7_convertOnce 227 = .ok (.lcmp, 1) := by decide +kernel
theorem dX7_convertOnce_228 : decode cX7_convertOnce 228 = .ok (.ifCond .le 8, 3) := by decide +kernel
theorem dX7_convertOnce_231 : decode cX7_convertOnce 231 = .ok (.ldc 114, 2) := by decide +kernel
theorem dX7_convertOnce_233 : decode cX7_convertOnce 233 = .ok (.goto 20, 3) := by decide +kernel
theorem dX7_convertOnce_236 : decode cX7_convertOnce 236 = .ok (.lload 8, 2) := by decide +kernel
theorem dX7_convertOnce_238 : decode cX7_convertOnce 238 = .ok (.ldc2_w 115, 3) := by decide +kernel
theorem dX7_convertOnce_241 : decode cX7_convertOnce 241 = .ok (.lcmp, 1) := by decide +kernel
theorem dX7_convertOnce_242 : decode cX7_convertOnce 242 = .ok (.ifCond .ge 8, 3) := by decide +kernel
theorem dX7_convertOnce_245 : decode cX7_convertOnce 245 = .ok (.ldc 117, 2) := by decide +kernel
theorem dX7_convertOnce_247 : decode cX7_convertOnce 247 = .ok (.goto 6, 3) := by decide +kernel
theorem dX7_convertOnce_250 : decode cX7_convertOnce 250 = .ok (.lload 8, 2) := by decide +kernel
theorem dX7_convertOnce_252 : decode cX7_convertOnce 252 = .ok (.l2i, 1) := by decide +kernel
theorem dX7_convertOnce_253 : decode cX7_convertOnce 253 = .ok (.iastore, 1) := by decide +kernel
theorem dX7_convertOnce_254 : decode cX7_convertOnce 254 = .ok (.goto 33, 3) := by decide +kernel
theorem dX7_convertOnce_257 : decode cX7_convertOnce 257 = .ok (.aload_n 0, 1) := by decide +kernel
theorem dX7_convertOnce_258 : decode cX7_convertOnce 258 = .ok (.getfield 38, 3) := by decide +kernel
theorem dX7_convertOnce_261 : decode cX7_convertOnce 261 = .ok (.iload_n 1, 1) := by decide +kernel
theorem dX7_convertOnce_262 : decode cX7_convertOnce 262 = .ok (.iload_n 2, 1) := by decide +kernel
theorem dX7_convertOnce_263 : decode cX7_convertOnce 263 = .ok (.iload 7, 2) := by decide +kernel
theorem dX7_convertOnce_265 : decode cX7_convertOnce 265 = .ok (.invokestatic 108, 3) := by decide +kernel
theorem dX7_convertOnce_268 : decode cX7_convertOnce 268 = .ok (.dup2, 1) := by decide +kernel
theorem dX7_convertOnce_269 : decode cX7_convertOnce 269 = .ok (.iaload, 1) := by decide +kernel
theorem dX7_convertOnce_270 : decode cX7_convertOnce 270 = .ok (.aload_n 0, 1) := by decide +kernel
theorem dX7_convertOnce_271 : decode cX7_convertOnce 271 = .ok (.getfield 38, 3) := by decide +kernel
theorem dX7_convertOnce_274 : decode cX7_convertOnce 274 = .ok (.iload_n 1, 1) := by decide +kernel
theorem dX7_convertOnce_275 : decode cX7_convertOnce 275 = .ok (.iload_n 2, 1) := by decide +kernel
theorem dX7_convertOnce_276 : decode cX7_convertOnce 276 = .ok (.iload 6, 2) := by decide +kernel
theorem dX7_convertOnce_278 : decode cX7_convertOnce 278 = .ok (.invokestatic 108, 3) := by decide +kernel
theorem dX7_convertOnce_281 : decode cX7_convertOnce 281 = .ok (.iaload, 1) := by decide +kernel
theorem dX7_convertOnce_282 : decode cX7_convertOnce 282 = .ok (.iadd, 1) := by decide +kernel
theorem dX7_convertOnce_283 : decode cX7_convertOnce 283 = .ok (.iastore, 1) := by decide +kernel
theorem dX7_convertOnce_284 : decode cX7_convertOnce 284 = .ok (.goto 3, 3) := by decide +kernel
theorem dX7_convertOnce_287 : decode cX7_convertOnce 287 = .ok (.aload_n 0, 1) := by decide +kernel
theorem dX7_convertOnce_288 : decode cX7_convertOnce 288 = .ok (.getfield 7, 3) := by decide +kernel
theorem dX7_convertOnce_291 : decode cX7_convertOnce 291 = .ok (.iload 5, 2) := by decide +kernel
theorem dX7_convertOnce_293 : decode cX7_convertOnce 293 = .ok (.iaload, 1) := by decide +kernel
theorem dX7_convertOnce_294 : decode cX7_convertOnce 294 = .ok (.iconst 2, 1) := by decide +kernel
theorem dX7_convertOnce_295 : decode cX7_convertOnce 295 = .ok (.if_icmp .eq 14, 3) := by decide +kernel
theorem dX7_convertOnce_298 : decode cX7_convertOnce 298 = .ok (.aload_n 0, 1) := by decide +kernel
theorem dX7_convertOnce_299 : decode cX7_convertOnce 299 = .ok (.getfield 7, 3) := by decide +kernel
theorem dX7_convertOnce_302 : decode cX7_convertOnce 302 = .ok (.iload 5, 2) := by decide +kernel
theorem dX7_convertOnce_304 : decode cX7_convertOnce 304 = .ok (.iaload, 1) := by decide +kernel
theorem dX7_convertOnce_305 : decode cX7_convertOnce 305 = .ok (.iconst 4, 1) := by decide +kernel
theorem dX7_convertOnce_306 : decode cX7_convertOnce 306 = .ok (.if_icmp .ne 8, 3) := by decide +kernel
theorem dX7_convertOnce_309 : decode cX7_convertOnce 309 = .ok (.iload 7, 2) := by decide +kernel
theorem dX7_convertOnce_311 : decode cX7_convertOnce 311 = .ok (.goto 5, 3) := by decide +kernel
theorem dX7_convertOnce_314 : decode cX7_convertOnce 314 = .ok (.iload 6, 2) := by decide +kernel
theorem dX7_convertOnce_316 : decode cX7_convertOnce 316 = .ok (.istore 8, 2) := by decide +kernel
theorem dX7_convertOnce_318 : decode cX7_convertOnce 318 = .ok (.aload_n 0, 1) := by decide +kernel
theorem dX7_convertOnce_319 : decode cX7_convertOnce 319 = .ok (.getfield 38, 3) := by decide +kernel
theorem dX7_convertOnce_322 : decode cX7_convertOnce 322 = .ok (.iload_n 1, 1) := by decide +kernel
theorem dX7_convertOnce_323 : decode cX7_convertOnce 323 = .ok (.iload_n 2, 1) := by decide +kernel
theorem dX7_convertOnce_324 : decode cX7_convertOnce 324 = .ok (.iload 8, 2) := by decide +kernel
theorem dX7_convertOnce_326 : decode cX7_convertOnce 326 = .ok (.invokestatic 108, 3) := by decide +kernel
theorem dX7_convertOnce_329 : decode cX7_convertOnce 329 = .ok (.iaload, 1) := by decide +kernel
theorem dX7_convertOnce_330 : decode cX7_convertOnce 330 = .ok (.ldc 76, 2) := by decide +kernel
theorem dX7_convertOnce_332 : decode cX7_convertOnce 332 = .ok (.ldc 77, 2) := by decide +kernel
theorem dX7_convertOnce_334 : decode cX7_convertOnce 334 = .ok (.invokestatic 45, 3) := by decide +kernel
theorem dX7_convertOnce_337 : decode cX7_convertOnce 337 = .ok (.ifCond .ne 5, 3) := by decide +kernel
theorem dX7_convertOnce_340 : decode cX7_convertOnce 340 = .ok (.iconst 0, 1) := by decide +kernel
theorem dX7_convertOnce_341 : decode cX7_convertOnce 341 = .ok (.ireturn, 1) := by decide +kernel
theorem dX7_convertOnce_342 : decode cX7_convertOnce 342 = .ok (.iinc 4 1, 3) := by decide +kernel
theorem dX7_convertOnce_345 : decode cX7_convertOnce 345 = .ok (.goto (-293), 3) := by decide +kernel
theorem dX7_convertOnce_348 : decode cX7_convertOnce 348 = .ok (.iconst 1, 1) := by decide +kernel
theorem dX7_convertOnce_349 : decode cX7_convertOnce 349 = .ok (.ireturn, 1) := by decide +kernel
set_option maxRecDepth 20000 in
theorem ggX7_convert_X7_convertOnce : GoodIn wsX7_convert wsX7_convertOnce := goodIn_r _ [6, 7, 8, 9, 10, 11, 12, 13, 14, 15, 16, 17, 5, 18, 19, 20, 21, 22, 23, 24, 25, 26, 27, 28, 29, 30, 31, 32, 33, 34, 35, 36, 37, 38, 39, 40] (by decide +kernel) (by decide +kernel)
set_option maxRecDepth 20000 in
theorem gX7_convert_X7_convertOnce : GoodIn wsX7_convert (wsV RX7 118 RX7 yX7_convertOnce wsX7_convertOnce) := goodIn_app (goodIn_of _ (by decide +kernel)) ggX7_convert_X7_convertOnce
theorem dX7_convert_0 : decode cX7_convert 0 = .ok (.iconst 1, 1) := by decide +kernel
theorem dX7_convert_1 : decode cX7_convert 1 = .ok (.istore_n 3, 1) := by decide +kernel
theorem dX7_convert_2 : decode cX7_convert 2 = .ok (.aload_n 0, 1) := by decide +kernel
theorem dX7_convert_3 : decode cX7_convert 3 = .ok (.getfield 32, 3) := by decide +kernel
theorem dX7_convert_6 : decode cX7_convert 6 = .ok (.iload_n 1, 1) := by decide +kernel
theorem dX7_convert_7 : decode cX7_convert 7 = .ok (.iaload, 1) := by decide +kernel
theorem dX7_convert_8 : decode cX7_convert 8 = .ok (.iconst 1, 1) := by decide +kernel
theorem dX7_convert_9 : decode cX7_convert 9 = .ok (.iadd, 1) := by decide +kernel
theorem dX7_convert_10 : decode cX7_convert 10 = .ok (.istore 4, 2) := by decide +kernel
theorem dX7_convert_12 : decode cX7_convert 12 = .ok (.iload 4, 2) := by decide +kernel
theorem dX7_convert_14 : decode cX7_convert 14 = .ok (.iload_n 2, 1) := by decide +kernel
theorem dX7_convert_15 : decode cX7_convert 15 = .ok (.if_icmp .gt 21, 3) := by decide +kernel
theorem dX7_convert_18 : decode cX7_convert 18 = .ok (.iload_n 3, 1) := by decide +kernel
theorem dX7_convert_19 : decode cX7_convert 19 = .ok (.ifCond .eq 17, 3) := by decide +kernel
theorem dX7_convert_22 : decode cX7_convert 22 = .ok (.aload_n 0, 1) := by decide +kernel
theorem dX7_convert_23 : decode cX7_convert 23 = .ok (.iload_n 1, 1) := by decide +kernel
theorem dX7_convert_24 : decode cX7_convert 24 = .ok (.iload 4, 2) := by decide +kernel
theorem dX7_convert_26 : decode cX7_convert 26 = .ok (.invokevirtual 118, 3) := by decide +kernel
theorem dX7_convert_29 : decode cX7_convert 29 = .ok (.istore_n 3, 1) := by decide +kernel
theorem dX7_convert_30 : decode cX7_convert 30 = .ok (.iinc 4 1, 3) := by decide +kernel
theorem dX7_convert_33 : decode cX7_convert 33 = .ok (.goto (-21), 3) := by decide +kernel
theorem dX7_convert_36 : decode cX7_convert 36 = .ok (.aload_n 0, 1) := by decide +kernel
theorem dX7_convert_37 : decode cX7_convert 37 = .ok (.getfield 32, 3) := by decide +kernel
theorem dX7_convert_40 : decode cX7_convert 40 = .ok (.iload_n 1, 1) := by decide +kernel
theorem dX7_convert_41 : decode cX7_convert 41 = .ok (.iload_n 3, 1) := by decide +kernel
theorem dX7_convert_42 : decode cX7_convert 42 = .ok (.ifCond .eq 7, 3) := by decide +kernel
theorem dX7_convert_45 : decode cX7_convert 45 = .ok (.iload_n 2, 1) := by decide +kernel
theorem dX7_convert_46 : decode cX7_convert 46 = .ok (.goto 9, 3) := by decide +kernel
theorem dX7_convert_49 : decode cX7_convert 49 = .ok (.aload_n 0, 1) := by decide +kernel
theorem dX7_convert_50 : decode cX7_convert 50 = .ok (.getfield 32, 3) := by decide +kernel
theorem dX7_convert_53 : decode cX7_convert 53 = .ok (.iload_n 1, 1) := by decide +kernel
theorem dX7_convert_54 : decode cX7_convert 54 = .ok (.iaload, 1) := by decide +kernel
theorem dX7_convert_55 : decode cX7_convert 55 = .ok (.iastore, 1) := by decide +kernel
theorem dX7_convert_56 : decode cX7_convert 56 = .ok (.iload_n 3, 1) := by decide +kernel
theorem dX7_convert_57 : decode cX7_convert 57 = .ok (.ireturn, 1) := by decide +kernel
set_option maxRecDepth 20000 in
theorem ggX7_isHeldBelow_X7_isThere : GoodIn wsX7_isHeldBelow wsX7_isThere := goodIn_r _ [7, 8, 9, 10, 11, 12, 13, 14, 15, 16, 17, 18, 19, 20] (by decide +kernel) (by decide +kernel)
set_option maxRecDepth 20000 in
theorem gX7_isHeldBelow_X7_isThere : GoodIn wsX7_isHeldBelow (wsV RX7 89 RX7 yX7_isThere wsX7_isThere) := goodIn_app (goodIn_of _ (by decide +kernel)) ggX7_isHeldBelow_X7_isThere
theorem dX7_isHeldBelow_0 : decode cX7_isHeldBelow 0 = .ok (.iconst 0, 1) := by decide +kernel
theorem dX7_isHeldBelow_1 : decode cX7_isHeldBelow 1 = .ok (.istore_n 3, 1) := by decide +kernel
theorem dX7_isHeldBelow_2 : decode cX7_isHeldBelow 2 = .ok (.iconst 0, 1) := by decide +kernel
theorem dX7_isHeldBelow_3 : decode cX7_isHeldBelow 3 = .ok (.istore 4, 2) := by decide +kernel
theorem dX7_isHeldBelow_5 : decode cX7_isHeldBelow 5 = .ok (.iload 4, 2) := by decide +kernel
theorem dX7_isHeldBelow_7 : decode cX7_isHeldBelow 7 = .ok (.bipush 32, 2) := by decide +kernel
theorem dX7_isHeldBelow_9 : decode cX7_isHeldBelow 9 = .ok (.if_icmp .ge 54, 3) := by decide +kernel
theorem dX7_isHeldBelow_12 : decode cX7_isHeldBelow 12 = .ok (.iload_n 3, 1) := by decide +kernel
theorem dX7_isHeldBelow_13 : decode cX7_isHeldBelow 13 = .ok (.ifCond .ne 38, 3) := by decide +kernel
theorem dX7_isHeldBelow_16 : decode cX7_isHeldBelow 16 = .ok (.aload_n 0, 1) := by decide +kernel
theorem dX7_isHeldBelow_17 : decode cX7_isHeldBelow 17 = .ok (.iload 4, 2) := by decide +kernel
theorem dX7_isHeldBelow_19 : decode cX7_isHeldBelow 19 = .ok (.invokevirtual 89, 3) := by decide +kernel
theorem dX7_isHeldBelow_22 : decode cX7_isHeldBelow 22 = .ok (.ifCond .eq 33, 3) := by decide +kernel
theorem dX7_isHeldBelow_25 : decode cX7_isHeldBelow 25 = .ok (.aload_n 0, 1) := by decide +kernel
theorem dX7_isHeldBelow_26 : decode cX7_isHeldBelow 26 = .ok (.getfield 22, 3) := by decide +kernel
theorem dX7_isHeldBelow_29 : decode cX7_isHeldBelow 29 = .ok (.iload 4, 2) := by decide +kernel
theorem dX7_isHeldBelow_31 : decode cX7_isHeldBelow 31 = .ok (.iaload, 1) := by decide +kernel
theorem dX7_isHeldBelow_32 : decode cX7_isHeldBelow 32 = .ok (.iload_n 1, 1) := by decide +kernel
theorem dX7_isHeldBelow_33 : decode cX7_isHeldBelow 33 = .ok (.ishr, 1) := by decide +kernel
theorem dX7_isHeldBelow_34 : decode cX7_isHeldBelow 34 = .ok (.iconst 1, 1) := by decide +kernel
theorem dX7_isHeldBelow_35 : decode cX7_isHeldBelow 35 = .ok (.iand, 1) := by decide +kernel
theorem dX7_isHeldBelow_36 : decode cX7_isHeldBelow 36 = .ok (.iconst 1, 1) := by decide +kernel
theorem dX7_isHeldBelow_37 : decode cX7_isHeldBelow 37 = .ok (.if_icmp .ne 18, 3) := by decide +kernel
theorem dX7_isHeldBelow_40 : decode cX7_isHeldBelow 40 = .ok (.aload_n 0, 1) := by decide +kernel
theorem dX7_isHeldBelow_41 : decode cX7_isHeldBelow 41 = .ok (.getfield 19, 3) := by decide +kernel
theorem dX7_isHeldBelow_44 : decode cX7_isHeldBelow 44 = .ok (.iload 4, 2) := by decide +kernel
theorem dX7_isHeldBelow_46 : decode cX7_isHeldBelow 46 = .ok (.iaload, 1) := by decide +kernel
theorem dX7_isHeldBelow_47 : decode cX7_isHeldBelow 47 = .ok (.iload_n 2, 1) := by decide +kernel
theorem dX7_isHeldBelow_48 : decode cX7_isHeldBelow 48 = .ok (.if_icmp .ge 7, 3) := by decide +kernel
theorem dX7_isHeldBelow_51 : decode cX7_isHeldBelow 51 = .ok (.iconst 1, 1) := by decide +kernel
theorem dX7_isHeldBelow_52 : decode cX7_isHeldBelow 52 = .ok (.goto 4, 3) := by decide +kernel
theorem dX7_isHeldBelow_55 : decode cX7_isHeldBelow 55 = .ok (.iconst 0, 1) := by decide +kernel
theorem dX7_isHeldBelow_56 : decode cX7_isHeldBelow 56 = .ok (.istore_n 3, 1) := by decide +kernel
theorem dX7_isHeldBelow_57 : decode cX7_isHeldBelow 57 = .ok (.iinc 4 1, 3) := by decide +kernel
theorem dX7_isHeldBelow_60 : decode cX7_isHeldBelow 60 = .ok (.goto (-55), 3) := by decide +kernel
theorem dX7_isHeldBelow_63 : decode cX7_isHeldBelow 63 = .ok (.iload_n 3, 1) := by decide +kernel
theorem dX7_isHeldBelow_64 : decode cX7_isHeldBelow 64 = .ok (.ireturn, 1) := by decide +kernel
set_option maxRecDepth 20000 in
theorem ggX7_access_X7_isThread : GoodIn wsX7_access wsX7_isThread := goodIn_r _ [18, 19, 20, 17, 21] (by decide +kernel) (by decide +kernel)
set_option maxRecDepth 20000 in
theorem gX7_access_X7_isThread : GoodIn wsX7_access (va_wsS RX7 103 yX7_isThread wsX7_isThread) := goodIn_app (goodIn_of _ (by decide +kernel)) ggX7_access_X7_isThread
set_option maxRecDepth 20000 in
theorem ggX7_access_X7_isObject : GoodIn wsX7_access wsX7_isObject := goodIn_r _ [25, 26, 27, 19, 20, 17, 21, 65, 66, 67, 68, 69, 70, 71, 72, 73, 74, 75, 76] (by decide +kernel) (by decide +kernel)
set_option maxRecDepth 20000 in
theorem gX7_access_X7_isObject : GoodIn wsX7_access (wsV RX7 121 RX7 yX7_isObject wsX7_isObject) := goodIn_app (goodIn_of _ (by decide +kernel)) ggX7_access_X7_isObject
set_option maxRecDepth 20000 in
theorem ggX7_access_X7_of : GoodIn wsX7_access wsX7_of := goodIn_r _ [31, 32, 33, 34, 17, 35, 65, 66, 67, 68, 69, 70, 71, 72, 73, 74, 75, 76] (by decide +kernel) (by decide +kernel)
set_option maxRecDepth 20000 in
theorem gX7_access_X7_of : GoodIn wsX7_access (wsV RX7 53 RX7 yX7_of wsX7_of) := goodIn_app (goodIn_of _ (by decide +kernel)) ggX7_access_X7_of
set_option maxRecDepth 20000 in
theorem ggX7_access_X7_has : GoodIn wsX7_access wsX7_has := goodIn_r _ [38, 19, 20, 17, 21] (by decide +kernel) (by decide +kernel)
set_option maxRecDepth 20000 in
theorem gX7_access_X7_has : GoodIn wsX7_access (va_wsS RX7 78 yX7_has wsX7_has) := goodIn_app (goodIn_of _ (by decide +kernel)) ggX7_access_X7_has
set_option maxRecDepth 20000 in
theorem ggX7_access_X7_isHeldBelow : GoodIn wsX7_access wsX7_isHeldBelow := goodIn_r _ [42, 14, 5, 43, 44, 45, 17, 46, 2, 65, 66, 67, 68, 69, 70, 71, 72, 73, 74, 75, 76] (by decide +kernel) (by decide +kernel)
set_option maxRecDepth 20000 in
theorem gX7_access_X7_isHeldBelow : GoodIn wsX7_access (wsV RX7 127 RX7 yX7_isHeldBelow wsX7_isHeldBelow) := goodIn_app (goodIn_of _ (by decide +kernel)) ggX7_access_X7_isHeldBelow
set_option maxRecDepth 20000 in
theorem ggX7_access_X7_convert : GoodIn wsX7_access wsX7_convert := goodIn_r _ [50, 10, 51, 52, 53, 17, 54, 7, 55, 32, 56, 57, 58, 59, 60, 61, 62, 63, 64, 28, 29, 30, 31, 33, 34, 35, 19, 20, 21, 65, 66, 67, 68, 69, 70, 71, 72, 73, 74, 75, 76] (by decide +kernel) (by decide +kernel)
set_option maxRecDepth 20000 in
theorem gX7_access_X7_convert : GoodIn wsX7_access (wsV RX7 131 RX7 yX7_convert wsX7_convert) := goodIn_app (goodIn_of _ (by decide +kernel)) ggX7_access_X7_convert
theorem dX7_access_0 : decode cX7_access 0 = .ok (.iload_n 1, 1) := by decide +kernel
theorem dX7_access_1 : decode cX7_access 1 = .ok (.invokestatic 103, 3) := by decide +kernel
theorem dX7_access_4 : decode cX7_access 4 = .ok (.ifCond .ne 6, 3) := by decide +kernel
theorem dX7_access_7 : decode cX7_access 7 = .ok (.ldc 106, 2) := by decide +kernel
theorem dX7_access_9 : decode cX7_access 9 = .ok (.ireturn, 1) := by decide +kernel
theorem dX7_access_10 : decode cX7_access 10 = .ok (.aload_n 0, 1) := by decide +kernel
theorem dX7_access_11 : decode cX7_access 11 = .ok (.getfield 13, 3) := by decide +kernel
theorem dX7_access_14 : decode cX7_access 14 = .ok (.iload_n 1, 1) := by decide +kernel
theorem dX7_access_15 : decode cX7_access 15 = .ok (.iaload, 1) := by decide +kernel
theorem dX7_access_16 : decode cX7_access 16 = .ok (.ifCond .ne 6, 3) := by decide +kernel
theorem dX7_access_19 : decode cX7_access 19 = .ok (.ldc 107, 2) := by decide +kernel
theorem dX7_access_21 : decode cX7_access 21 = .ok (.ireturn, 1) := by decide +kernel
theorem dX7_access_22 : decode cX7_access 22 = .ok (.aload_n 0, 1) := by decide +kernel
theorem dX7_access_23 : decode cX7_access 23 = .ok (.iload_n 2, 1) := by decide +kernel
theorem dX7_access_24 : decode cX7_access 24 = .ok (.invokevirtual 121, 3) := by decide +kernel
theorem dX7_access_27 : decode cX7_access 27 = .ok (.ifCond .ne 6, 3) := by decide +kernel
theorem dX7_access_30 : decode cX7_access 30 = .ok (.ldc 124, 2) := by decide +kernel
theorem dX7_access_32 : decode cX7_access 32 = .ok (.ireturn, 1) := by decide +kernel
theorem dX7_access_33 : decode cX7_access 33 = .ok (.bipush 8, 2) := by decide +kernel
theorem dX7_access_35 : decode cX7_access 35 = .ok (.iload_n 1, 1) := by decide +kernel
theorem dX7_access_36 : decode cX7_access 36 = .ok (.imul, 1) := by decide +kernel
theorem dX7_access_37 : decode cX7_access 37 = .ok (.aload_n 0, 1) := by decide +kernel
theorem dX7_access_38 : decode cX7_access 38 = .ok (.getfield 13, 3) := by decide +kernel
theorem dX7_access_41 : decode cX7_access 41 = .ok (.iload_n 1, 1) := by decide +kernel
theorem dX7_access_42 : decode cX7_access 42 = .ok (.iaload, 1) := by decide +kernel
theorem dX7_access_43 : decode cX7_access 43 = .ok (.iadd, 1) := by decide +kernel
theorem dX7_access_44 : decode cX7_access 44 = .ok (.iconst 1, 1) := by decide +kernel
theorem dX7_access_45 : decode cX7_access 45 = .ok (.isub, 1) := by decide +kernel
theorem dX7_access_46 : decode cX7_access 46 = .ok (.istore 4, 2) := by decide +kernel
theorem dX7_access_48 : decode cX7_access 48 = .ok (.aload_n 0, 1) := by decide +kernel
theorem dX7_access_49 : decode cX7_access 49 = .ok (.getfield 19, 3) := by decide +kernel
theorem dX7_access_52 : decode cX7_access 52 = .ok (.iload 4, 2) := by decide +kernel
theorem dX7_access_54 : decode cX7_access 54 = .ok (.iaload, 1) := by decide +kernel
theorem dX7_access_55 : decode cX7_access 55 = .ok (.istore 5, 2) := by decide +kernel
theorem dX7_access_57 : decode cX7_access 57 = .ok (.aload_n 0, 1) := by decide +kernel
theorem dX7_access_58 : decode cX7_access 58 = .ok (.getfield 16, 3) := by decide +kernel
theorem dX7_access_61 : decode cX7_access 61 = .ok (.iload 4, 2) := by decide +kernel
theorem dX7_access_63 : decode cX7_access 63 = .ok (.iaload, 1) := by decide +kernel
theorem dX7_access_64 : decode cX7_access 64 = .ok (.aload_n 0, 1) := by decide +kernel
theorem dX7_access_65 : decode cX7_access 65 = .ok (.getfield 29, 3) := by decide +kernel
theorem dX7_access_68 : decode cX7_access 68 = .ok (.iload_n 2, 1) := by decide +kernel
theorem dX7_access_69 : decode cX7_access 69 = .ok (.iaload, 1) := by decide +kernel
theorem dX7_access_70 : decode cX7_access 70 = .ok (.if_icmp .eq 6, 3) := by decide +kernel
theorem dX7_access_73 : decode cX7_access 73 = .ok (.ldc 125, 2) := by decide +kernel
theorem dX7_access_75 : decode cX7_access 75 = .ok (.ireturn, 1) := by decide +kernel
theorem dX7_access_76 : decode cX7_access 76 = .ok (.aload_n 0, 1) := by decide +kernel
theorem dX7_access_77 : decode cX7_access 77 = .ok (.aload_n 0, 1) := by decide +kernel
theorem dX7_access_78 : decode cX7_access 78 = .ok (.getfield 29, 3) := by decide +kernel
theorem dX7_access_81 : decode cX7_access 81 = .ok (.iload_n 2, 1) := by decide +kernel
theorem dX7_access_82 : decode cX7_access 82 = .ok (.iaload, 1) := by decide +kernel
theorem dX7_access_83 : decode cX7_access 83 = .ok (.iconst 2, 1) := by decide +kernel
theorem dX7_access_84 : decode cX7_access 84 = .ok (.iload 5, 2) := by decide +kernel
theorem dX7_access_86 : decode cX7_access 86 = .ok (.iadd, 1) := by decide +kernel
theorem dX7_access_87 : decode cX7_access 87 = .ok (.invokevirtual 53, 3) := by decide +kernel
theorem dX7_access_90 : decode cX7_access 90 = .ok (.iload_n 3, 1) := by decide +kernel
theorem dX7_access_91 : decode cX7_access 91 = .ok (.invokestatic 78, 3) := by decide +kernel
theorem dX7_access_94 : decode cX7_access 94 = .ok (.ifCond .ne 6, 3) := by decide +kernel
theorem dX7_access_97 : decode cX7_access 97 = .ok (.ldc 86, 2) := by decide +kernel
theorem dX7_access_99 : decode cX7_access 99 = .ok (.ireturn, 1) := by decide +kernel
theorem dX7_access_100 : decode cX7_access 100 = .ok (.aload_n 0, 1) := by decide +kernel
theorem dX7_access_101 : decode cX7_access 101 = .ok (.getfield 32, 3) := by decide +kernel
theorem dX7_access_104 : decode cX7_access 104 = .ok (.iload_n 2, 1) := by decide +kernel
theorem dX7_access_105 : decode cX7_access 105 = .ok (.iaload, 1) := by decide +kernel
theorem dX7_access_106 : decode cX7_access 106 = .ok (.iload 5, 2) := by decide +kernel
theorem dX7_access_108 : decode cX7_access 108 = .ok (.if_icmp .le 6, 3) := by decide +kernel
theorem dX7_access_111 : decode cX7_access 111 = .ok (.ldc 126, 2) := by decide +kernel
theorem dX7_access_113 : decode cX7_access 113 = .ok (.ireturn, 1) := by decide +kernel
theorem dX7_access_114 : decode cX7_access 114 = .ok (.aload_n 0, 1) := by decide +kernel
theorem dX7_access_115 : decode cX7_access 115 = .ok (.getfield 32, 3) := by decide +kernel
theorem dX7_access_118 : decode cX7_access 118 = .ok (.iload_n 2, 1) := by decide +kernel
theorem dX7_access_119 : decode cX7_access 119 = .ok (.iaload, 1) := by decide +kernel
theorem dX7_access_120 : decode cX7_access 120 = .ok (.iload 5, 2) := by decide +kernel
theorem dX7_access_122 : decode cX7_access 122 = .ok (.if_icmp .ge 16, 3) := by decide +kernel
theorem dX7_access_125 : decode cX7_access 125 = .ok (.aload_n 0, 1) := by decide +kernel
theorem dX7_access_126 : decode cX7_access 126 = .ok (.iload_n 2, 1) := by decide +kernel
theorem dX7_access_127 : decode cX7_access 127 = .ok (.iload 5, 2) := by decide +kernel
theorem dX7_access_129 : decode cX7_access 129 = .ok (.invokevirtual 127, 3) := by decide +kernel
theorem dX7_access_132 : decode cX7_access 132 = .ok (.ifCond .eq 6, 3) := by decide +kernel
theorem dX7_access_135 : decode cX7_access 135 = .ok (.ldc 130, 2) := by decide +kernel
theorem dX7_access_137 : decode cX7_access 137 = .ok (.ireturn, 1) := by decide +kernel
theorem dX7_access_138 : decode cX7_access 138 = .ok (.aload_n 0, 1) := by decide +kernel
theorem dX7_access_139 : decode cX7_access 139 = .ok (.getfield 32, 3) := by decide +kernel
theorem dX7_access_142 : decode cX7_access 142 = .ok (.iload_n 2, 1) := by decide +kernel
theorem dX7_access_143 : decode cX7_access 143 = .ok (.iaload, 1) := by decide +kernel
theorem dX7_access_144 : decode cX7_access 144 = .ok (.iload 5, 2) := by decide +kernel
theorem dX7_access_146 : decode cX7_access 146 = .ok (.if_icmp .ge 16, 3) := by decide +kernel
theorem dX7_access_149 : decode cX7_access 149 = .ok (.aload_n 0, 1) := by decide +kernel
theorem dX7_access_150 : decode cX7_access 150 = .ok (.iload_n 2, 1) := by decide +kernel
theorem dX7_access_151 : decode cX7_access 151 = .ok (.iload 5, 2) := by decide +kernel
theorem dX7_access_153 : decode cX7_access 153 = .ok (.invokevirtual 131, 3) := by decide +kernel
theorem dX7_access_156 : decode cX7_access 156 = .ok (.ifCond .ne 6, 3) := by decide +kernel
theorem dX7_access_159 : decode cX7_access 159 = .ok (.ldc 134, 2) := by decide +kernel
theorem dX7_access_161 : decode cX7_access 161 = .ok (.ireturn, 1) := by decide +kernel
theorem dX7_access_162 : decode cX7_access 162 = .ok (.aload_n 0, 1) := by decide +kernel
theorem dX7_access_163 : decode cX7_access 163 = .ok (.getfield 22, 3) := by decide +kernel
theorem dX7_access_166 : decode cX7_access 166 = .ok (.iload 4, 2) := by decide +kernel
theorem dX7_access_168 : decode cX7_access 168 = .ok (.dup2, 1) := by decide +kernel
theorem dX7_access_169 : decode cX7_access 169 = .ok (.iaload, 1) := by decide +kernel
theorem dX7_access_170 : decode cX7_access 170 = .ok (.iconst 1, 1) := by decide +kernel
theorem dX7_access_171 : decode cX7_access 171 = .ok (.iload_n 2, 1) := by decide +kernel
theorem dX7_access_172 : decode cX7_access 172 = .ok (.ishl, 1) := by decide +kernel
theorem dX7_access_173 : decode cX7_access 173 = .ok (.ior, 1) := by decide +kernel
theorem dX7_access_174 : decode cX7_access 174 = .ok (.iastore, 1) := by decide +kernel
theorem dX7_access_175 : decode cX7_access 175 = .ok (.iconst 0, 1) := by decide +kernel
theorem dX7_access_176 : decode cX7_access 176 = .ok (.ireturn, 1) := by decide +kernel
set_option maxRecDepth 20000 in
theorem ggX7_read_X7_access : GoodIn wsX7_read wsX7_access := goodIn_r _ [7, 8, 9, 10, 11, 12, 13, 14, 15, 16, 2, 17, 18, 19, 20, 21, 22, 6, 23, 24, 25, 26, 27, 28, 29, 30, 31, 32, 33, 34, 35, 36, 37, 38, 39, 40, 41, 42, 43, 44, 45, 46, 47, 48, 49, 50, 51, 52, 53, 54, 55, 56, 57, 58, 59, 1, 60, 61, 62, 63, 64, 65, 66, 67, 68, 69, 70, 71, 72, 73, 74, 75, 76, 77, 78, 79, 80] (by decide +kernel) (by decide +kernel)
set_option maxRecDepth 20000 in
theorem gX7_read_X7_access : GoodIn wsX7_read (wsV RX7 135 RX7 yX7_access wsX7_access) := goodIn_app (goodIn_of _ (by decide +kernel)) ggX7_read_X7_access
set_option maxRecDepth 20000 in
theorem ggX7_read_X7_cell : GoodIn wsX7_read wsX7_cell := goodIn_r _ [68] (by decide +kernel) (by decide +kernel)
set_option maxRecDepth 20000 in
theorem gX7_read_X7_cell : GoodIn wsX7_read (va_wsS RX7 108 yX7_cell wsX7_cell) := goodIn_app (goodIn_of _ (by decide +kernel)) ggX7_read_X7_cell
theorem dX7_read_0 : decode cX7_read 0 = .ok (.aload_n 0, 1) := by decide +kernel
theorem dX7_read_1 : decode cX7_read 1 = .ok (.iload_n 1, 1) := by decide +kernel
theorem dX7_read_2 : decode cX7_read 2 = .ok (.iload_n 2, 1) := by decide +kernel
theorem dX7_read_3 : decode cX7_read 3 = .ok (.iload_n 3, 1) := by decide +kernel
theorem dX7_read_4 : decode cX7_read 4 = .ok (.invokevirtual 135, 3) := by decide +kernel
theorem dX7_read_7 : decode cX7_read 7 = .ok (.istore 4, 2) := by decide +kernel
theorem dX7_read_9 : decode cX7_read 9 = .ok (.iload 4, 2) := by decide +kernel
theorem dX7_read_11 : decode cX7_read 11 = .ok (.ifCond .eq 8, 3) := by decide +kernel
theorem dX7_read_14 : decode cX7_read 14 = .ok (.iload 4, 2) := by decide +kernel
theorem dX7_read_16 : decode cX7_read 16 = .ok (.goto 19, 3) := by decide +kernel
theorem dX7_read_19 : decode cX7_read 19 = .ok (.aload_n 0, 1) := by decide +kernel
theorem dX7_read_20 : decode cX7_read 20 = .ok (.getfield 38, 3) := by decide +kernel
theorem dX7_read_23 : decode cX7_read 23 = .ok (.iload_n 2, 1) := by decide +kernel
theorem dX7_read_24 : decode cX7_read 24 = .ok (.aload_n 0, 1) := by decide +kernel
theorem dX7_read_25 : decode cX7_read 25 = .ok (.getfield 32, 3) := by decide +kernel
theorem dX7_read_28 : decode cX7_read 28 = .ok (.iload_n 2, 1) := by decide +kernel
theorem dX7_read_29 : decode cX7_read 29 = .ok (.iaload, 1) := by decide +kernel
theorem dX7_read_30 : decode cX7_read 30 = .ok (.iload_n 3, 1) := by decide +kernel
theorem dX7_read_31 : decode cX7_read 31 = .ok (.invokestatic 108, 3) := by decide +kernel
theorem dX7_read_34 : decode cX7_read 34 = .ok (.iaload, 1) := by decide +kernel
theorem dX7_read_35 : decode cX7_read 35 = .ok (.ireturn, 1) := by decide +kernel
set_option maxRecDepth 20000 in
theorem ggX7_write_X7_in : GoodIn wsX7_write wsX7_in := goodIn_r _ [9] (by decide +kernel) (by decide +kernel)
set_option maxRecDepth 20000 in
theorem gX7_write_X7_in : GoodIn wsX7_write (va_wsS RX7 45 yX7_in wsX7_in) := goodIn_app (goodIn_of _ (by decide +kernel)) ggX7_write_X7_in
set_option maxRecDepth 20000 in
theorem ggX7_write_X7_access : GoodIn wsX7_write wsX7_access := goodIn_r _ [13, 14, 15, 16, 17, 18, 19, 20, 21, 22, 4, 23, 24, 25, 26, 27, 28, 8, 29, 6, 7, 9, 30, 31, 32, 33, 34, 35, 36, 37, 38, 39, 40, 41, 42, 43, 44, 45, 46, 47, 48, 49, 50, 51, 52, 53, 54, 55, 56, 57, 58, 59, 60, 61, 62, 5, 63, 64, 65, 66, 1, 2, 67, 68, 69, 70, 71, 72, 73, 74, 75, 76, 77, 78, 79, 80, 81] (by decide +kernel) (by decide +kernel)
set_option maxRecDepth 20000 in
theorem gX7_write_X7_access : GoodIn wsX7_write (wsV RX7 135 RX7 yX7_access wsX7_access) := goodIn_app (goodIn_of _ (by decide +kernel)) ggX7_write_X7_access
set_option maxRecDepth 20000 in
theorem ggX7_write_X7_cell : GoodIn wsX7_write wsX7_cell := goodIn_r _ [69] (by decide +kernel) (by decide +kernel)
set_option maxRecDepth 20000 in
theorem gX7_write_X7_cell : GoodIn wsX7_write (va_wsS RX7 108 yX7_cell wsX7_cell) := goodIn_app (goodIn_of _ (by decide +kernel)) ggX7_write_X7_cell
theorem dX7_write_0 : decode cX7_write 0 = .ok (.iload 4, 2) := by decide +kernel
theorem dX7_write_2 : decode cX7_write 2 = .ok (.ldc 76, 2) := by decide +kernel
theorem dX7_write_4 : decode cX7_write 4 = .ok (.ldc 77, 2) := by decide +kernel
theorem dX7_write_6 : decode cX7_write 6 = .ok (.invokestatic 45, 3) := by decide +kernel
theorem dX7_write_9 : decode cX7_write 9 = .ok (.ifCond .ne 6, 3) := by decide +kernel
theorem dX7_write_12 : decode cX7_write 12 = .ok (.ldc 56, 2) := by decide +kernel
theorem dX7_write_14 : decode cX7_write 14 = .ok (.ireturn, 1) := by decide +kernel
theorem dX7_write_15 : decode cX7_write 15 = .ok (.aload_n 0, 1) := by decide +kernel
theorem dX7_write_16 : decode cX7_write 16 = .ok (.iload_n 1, 1) := by decide +kernel
theorem dX7_write_17 : decode cX7_write 17 = .ok (.iload_n 2, 1) := by decide +kernel
theorem dX7_write_18 : decode cX7_write 18 = .ok (.iload_n 3, 1) := by decide +kernel
theorem dX7_write_19 : decode cX7_write 19 = .ok (.invokevirtual 135, 3) := by decide +kernel
theorem dX7_write_22 : decode cX7_write 22 = .ok (.istore 5, 2) := by decide +kernel
theorem dX7_write_24 : decode cX7_write 24 = .ok (.iload 5, 2) := by decide +kernel
theorem dX7_write_26 : decode cX7_write 26 = .ok (.ifCond .eq 6, 3) := by decide +kernel
theorem dX7_write_29 : decode cX7_write 29 = .ok (.iload 5, 2) := by decide +kernel
theorem dX7_write_31 : decode cX7_write 31 = .ok (.ireturn, 1) := by decide +kernel
theorem dX7_write_32 : decode cX7_write 32 = .ok (.iload_n 2, 1) := by decide +kernel
theorem dX7_write_33 : decode cX7_write 33 = .ok (.aload_n 0, 1) := by decide +kernel
theorem dX7_write_34 : decode cX7_write 34 = .ok (.getfield 32, 3) := by decide +kernel
theorem dX7_write_37 : decode cX7_write 37 = .ok (.iload_n 2, 1) := by decide +kernel
theorem dX7_write_38 : decode cX7_write 38 = .ok (.iaload, 1) := by decide +kernel
theorem dX7_write_39 : decode cX7_write 39 = .ok (.iload_n 3, 1) := by decide +kernel
theorem dX7_write_40 : decode cX7_write 40 = .ok (.invokestatic 108, 3) := by decide +kernel
theorem dX7_write_43 : decode cX7_write 43 = .ok (.istore 6, 2) := by decide +kernel
theorem dX7_write_45 : decode cX7_write 45 = .ok (.aload_n 0, 1) := by decide +kernel
theorem dX7_write_46 : decode cX7_write 46 = .ok (.getfield 38, 3) := by decide +kernel
theorem dX7_write_49 : decode cX7_write 49 = .ok (.iload 6, 2) := by decide +kernel
theorem dX7_write_51 : decode cX7_write 51 = .ok (.iaload, 1) := by decide +kernel
theorem dX7_write_52 : decode cX7_write 52 = .ok (.istore 7, 2) := by decide +kernel
theorem dX7_write_54 : decode cX7_write 54 = .ok (.aload_n 0, 1) := by decide +kernel
theorem dX7_write_55 : decode cX7_write 55 = .ok (.getfield 38, 3) := by decide +kernel
theorem dX7_write_58 : decode cX7_write 58 = .ok (.iload 6, 2) := by decide +kernel
theorem dX7_write_60 : decode cX7_write 60 = .ok (.iload 4, 2) := by decide +kernel
theorem dX7_write_62 : decode cX7_write 62 = .ok (.iastore, 1) := by decide +kernel
theorem dX7_write_63 : decode cX7_write 63 = .ok (.iload 7, 2) := by decide +kernel
theorem dX7_write_65 : decode cX7_write 65 = .ok (.ireturn, 1) := by decide +kernel
set_option maxRecDepth 20000 in
theorem ggX7_peek_X7_isObject : GoodIn wsX7_peek wsX7_isObject := goodIn_r _ [10, 11, 12, 13, 14, 9, 15, 30, 31, 32, 33, 34, 35, 36, 37, 38, 39, 40, 41] (by decide +kernel) (by decide +kernel)
set_option maxRecDepth 20000 in
theorem gX7_peek_X7_isObject : GoodIn wsX7_peek (wsV RX7 121 RX7 yX7_isObject wsX7_isObject) := goodIn_app (goodIn_of _ (by decide +kernel)) ggX7_peek_X7_isObject
set_option maxRecDepth 20000 in
theorem ggX7_peek_X7_of : GoodIn wsX7_peek wsX7_of := goodIn_r _ [19, 20, 21, 22, 9, 23, 30, 31, 32, 33, 34, 35, 36, 37, 38, 39, 40, 41] (by decide +kernel) (by decide +kernel)
set_option maxRecDepth 20000 in
theorem gX7_peek_X7_of : GoodIn wsX7_peek (wsV RX7 53 RX7 yX7_of wsX7_of) := goodIn_app (goodIn_of _ (by decide +kernel)) ggX7_peek_X7_of
set_option maxRecDepth 20000 in
theorem ggX7_peek_X7_has : GoodIn wsX7_peek wsX7_has := goodIn_r _ [26, 13, 14, 9, 15] (by decide +kernel) (by decide +kernel)
set_option maxRecDepth 20000 in
theorem gX7_peek_X7_has : GoodIn wsX7_peek (va_wsS RX7 78 yX7_has wsX7_has) := goodIn_app (goodIn_of _ (by decide +kernel)) ggX7_peek_X7_has
set_option maxRecDepth 20000 in
theorem ggX7_peek_X7_cell : GoodIn wsX7_peek wsX7_cell := goodIn_r _ [29] (by decide +kernel) (by decide +kernel)
set_option maxRecDepth 20000 in
theorem gX7_peek_X7_cell : GoodIn wsX7_peek (va_wsS RX7 108 yX7_cell wsX7_cell) := goodIn_app (goodIn_of _ (by decide +kernel)) ggX7_peek_X7_cell
theorem dX7_peek_0 : decode cX7_peek 0 = .ok (.aload_n 0, 1) := by decide +kernel
theorem dX7_peek_1 : decode cX7_peek 1 = .ok (.iload_n 1, 1) := by decide +kernel
theorem dX7_peek_2 : decode cX7_peek 2 = .ok (.invokevirtual 121, 3) := by decide +kernel
theorem dX7_peek_5 : decode cX7_peek 5 = .ok (.ifCond .ne 6, 3) := by decide +kernel
theorem dX7_peek_8 : decode cX7_peek 8 = .ok (.ldc 124, 2) := by decide +kernel
theorem dX7_peek_10 : decode cX7_peek 10 = .ok (.ireturn, 1) := by decide +kernel
theorem dX7_peek_11 : decode cX7_peek 11 = .ok (.aload_n 0, 1) := by decide +kernel
theorem dX7_peek_12 : decode cX7_peek 12 = .ok (.getfield 32, 3) := by decide +kernel
theorem dX7_peek_15 : decode cX7_peek 15 = .ok (.iload_n 1, 1) := by decide +kernel
theorem dX7_peek_16 : decode cX7_peek 16 = .ok (.iaload, 1) := by decide +kernel
theorem dX7_peek_17 : decode cX7_peek 17 = .ok (.istore_n 3, 1) := by decide +kernel
theorem dX7_peek_18 : decode cX7_peek 18 = .ok (.aload_n 0, 1) := by decide +kernel
theorem dX7_peek_19 : decode cX7_peek 19 = .ok (.aload_n 0, 1) := by decide +kernel
theorem dX7_peek_20 : decode cX7_peek 20 = .ok (.getfield 29, 3) := by decide +kernel
theorem dX7_peek_23 : decode cX7_peek 23 = .ok (.iload_n 1, 1) := by decide +kernel
theorem dX7_peek_24 : decode cX7_peek 24 = .ok (.iaload, 1) := by decide +kernel
theorem dX7_peek_25 : decode cX7_peek 25 = .ok (.iconst 2, 1) := by decide +kernel
theorem dX7_peek_26 : decode cX7_peek 26 = .ok (.iload_n 3, 1) := by decide +kernel
theorem dX7_peek_27 : decode cX7_peek 27 = .ok (.iadd, 1) := by decide +kernel
theorem dX7_peek_28 : decode cX7_peek 28 = .ok (.invokevirtual 53, 3) := by decide +kernel
theorem dX7_peek_31 : decode cX7_peek 31 = .ok (.iload_n 2, 1) := by decide +kernel
theorem dX7_peek_32 : decode cX7_peek 32 = .ok (.invokestatic 78, 3) := by decide +kernel
theorem dX7_peek_35 : decode cX7_peek 35 = .ok (.ifCond .eq 17, 3) := by decide +kernel
theorem dX7_peek_38 : decode cX7_peek 38 = .ok (.aload_n 0, 1) := by decide +kernel
theorem dX7_peek_39 : decode cX7_peek 39 = .ok (.getfield 38, 3) := by decide +kernel
theorem dX7_peek_42 : decode cX7_peek 42 = .ok (.iload_n 1, 1) := by decide +kernel
theorem dX7_peek_43 : decode cX7_peek 43 = .ok (.iload_n 3, 1) := by decide +kernel
theorem dX7_peek_44 : decode cX7_peek 44 = .ok (.iload_n 2, 1) := by decide +kernel
theorem dX7_peek_45 : decode cX7_peek 45 = .ok (.invokestatic 108, 3) := by decide +kernel
theorem dX7_peek_48 : decode cX7_peek 48 = .ok (.iaload, 1) := by decide +kernel
theorem dX7_peek_49 : decode cX7_peek 49 = .ok (.goto 5, 3) := by decide +kernel
theorem dX7_peek_52 : decode cX7_peek 52 = .ok (.ldc 86, 2) := by decide +kernel
theorem dX7_peek_54 : decode cX7_peek 54 = .ok (.ireturn, 1) := by decide +kernel
set_option maxRecDepth 20000 in
theorem ggX7_objectVersion_X7_isObject : GoodIn wsX7_objectVersion wsX7_isObject := goodIn_r _ [7, 8, 9, 10, 11, 6, 12, 13, 14, 15, 16, 17, 18, 19, 20, 21, 22, 23, 24] (by decide +kernel) (by decide +kernel)
set_option maxRecDepth 20000 in
theorem gX7_objectVersion_X7_isObject : GoodIn wsX7_objectVersion (wsV RX7 121 RX7 yX7_isObject wsX7_isObject) := goodIn_app (goodIn_of _ (by decide +kernel)) ggX7_objectVersion_X7_isObject
theorem dX7_objectVersion_0 : decode cX7_objectVersion 0 = .ok (.aload_n 0, 1) := by decide +kernel
theorem dX7_objectVersion_1 : decode cX7_objectVersion 1 = .ok (.iload_n 1, 1) := by decide +kernel
theorem dX7_objectVersion_2 : decode cX7_objectVersion 2 = .ok (.invokevirtual 121, 3) := by decide +kernel
theorem dX7_objectVersion_5 : decode cX7_objectVersion 5 = .ok (.ifCond .eq 12, 3) := by decide +kernel
theorem dX7_objectVersion_8 : decode cX7_objectVersion 8 = .ok (.aload_n 0, 1) := by decide +kernel
theorem dX7_objectVersion_9 : decode cX7_objectVersion 9 = .ok (.getfield 32, 3) := by decide +kernel
theorem dX7_objectVersion_12 : decode cX7_objectVersion 12 = .ok (.iload_n 1, 1) := by decide +kernel
theorem dX7_objectVersion_13 : decode cX7_objectVersion 13 = .ok (.iaload, 1) := by decide +kernel
theorem dX7_objectVersion_14 : decode cX7_objectVersion 14 = .ok (.goto 5, 3) := by decide +kernel
theorem dX7_objectVersion_17 : decode cX7_objectVersion 17 = .ok (.ldc 124, 2) := by decide +kernel
theorem dX7_objectVersion_19 : decode cX7_objectVersion 19 = .ok (.ireturn, 1) := by decide +kernel
set_option maxRecDepth 20000 in
theorem ggX7_conversions_X7_isObject : GoodIn wsX7_conversions wsX7_isObject := goodIn_r _ [8, 9, 10, 11, 12, 7, 13, 14, 15, 16, 17, 18, 19, 20, 21, 22, 23, 24, 25] (by decide +kernel) (by decide +kernel)
set_option maxRecDepth 20000 in
theorem gX7_conversions_X7_isObject : GoodIn wsX7_conversions (wsV RX7 121 RX7 yX7_isObject wsX7_isObject) := goodIn_app (goodIn_of _ (by decide +kernel)) ggX7_conversions_X7_isObject
theorem dX7_conversions_0 : decode cX7_conversions 0 = .ok (.aload_n 0, 1) := by decide +kernel
theorem dX7_conversions_1 : decode cX7_conversions 1 = .ok (.iload_n 1, 1) := by decide +kernel
theorem dX7_conversions_2 : decode cX7_conversions 2 = .ok (.invokevirtual 121, 3) := by decide +kernel
theorem dX7_conversions_5 : decode cX7_conversions 5 = .ok (.ifCond .eq 19, 3) := by decide +kernel
theorem dX7_conversions_8 : decode cX7_conversions 8 = .ok (.aload_n 0, 1) := by decide +kernel
theorem dX7_conversions_9 : decode cX7_conversions 9 = .ok (.getfield 32, 3) := by decide +kernel
theorem dX7_conversions_12 : decode cX7_conversions 12 = .ok (.iload_n 1, 1) := by decide +kernel
theorem dX7_conversions_13 : decode cX7_conversions 13 = .ok (.iaload, 1) := by decide +kernel
theorem dX7_conversions_14 : decode cX7_conversions 14 = .ok (.aload_n 0, 1) := by decide +kernel
theorem dX7_conversions_15 : decode cX7_conversions 15 = .ok (.getfield 35, 3) := by decide +kernel
theorem dX7_conversions_18 : decode cX7_conversions 18 = .ok (.iload_n 1, 1) := by decide +kernel
theorem dX7_conversions_19 : decode cX7_conversions 19 = .ok (.iaload, 1) := by decide +kernel
theorem dX7_conversions_20 : decode cX7_conversions 20 = .ok (.isub, 1) := by decide +kernel
theorem dX7_conversions_21 : decode cX7_conversions 21 = .ok (.goto 5, 3) := by decide +kernel
theorem dX7_conversions_24 : decode cX7_conversions 24 = .ok (.ldc 124, 2) := by decide +kernel
theorem dX7_conversions_26 : decode cX7_conversions 26 = .ok (.ireturn, 1) := by decide +kernel
set_option maxRecDepth 20000 in
theorem ggX7_pinnedBy_X7_isObject : GoodIn wsX7_pinnedBy wsX7_isObject := goodIn_r _ [9, 10, 11, 12, 13, 8, 14, 20, 21, 22, 23, 24, 25, 26, 27, 28, 29, 30, 31] (by decide +kernel) (by decide +kernel)
set_option maxRecDepth 20000 in
theorem gX7_pinnedBy_X7_isObject : GoodIn wsX7_pinnedBy (wsV RX7 121 RX7 yX7_isObject wsX7_isObject) := goodIn_app (goodIn_of _ (by decide +kernel)) ggX7_pinnedBy_X7_isObject
set_option maxRecDepth 20000 in
theorem ggX7_pinnedBy_X7_isThere : GoodIn wsX7_pinnedBy wsX7_isThere := goodIn_r _ [18, 19, 20, 21, 22, 23, 24, 25, 26, 27, 28, 29, 30, 31] (by decide +kernel) (by decide +kernel)
set_option maxRecDepth 20000 in
theorem gX7_pinnedBy_X7_isThere : GoodIn wsX7_pinnedBy (wsV RX7 89 RX7 yX7_isThere wsX7_isThere) := goodIn_app (goodIn_of _ (by decide +kernel)) ggX7_pinnedBy_X7_isThere
theorem dX7_pinnedBy_0 : decode cX7_pinnedBy 0 = .ok (.aload_n 0, 1) := by decide +kernel
theorem dX7_pinnedBy_1 : decode cX7_pinnedBy 1 = .ok (.iload_n 1, 1) := by decide +kernel
theorem dX7_pinnedBy_2 : decode cX7_pinnedBy 2 = .ok (.invokevirtual 121, 3) := by decide +kernel
theorem dX7_pinnedBy_5 : decode cX7_pinnedBy 5 = .ok (.ifCond .ne 6, 3) := by decide +kernel
theorem dX7_pinnedBy_8 : decode cX7_pinnedBy 8 = .ok (.ldc 124, 2) := by decide +kernel
theorem dX7_pinnedBy_10 : decode cX7_pinnedBy 10 = .ok (.ireturn, 1) := by decide +kernel
theorem dX7_pinnedBy_11 : decode cX7_pinnedBy 11 = .ok (.ldc 138, 2) := by decide +kernel
theorem dX7_pinnedBy_13 : decode cX7_pinnedBy 13 = .ok (.istore_n 2, 1) := by decide +kernel
theorem dX7_pinnedBy_14 : decode cX7_pinnedBy 14 = .ok (.iconst 0, 1) := by decide +kernel
theorem dX7_pinnedBy_15 : decode cX7_pinnedBy 15 = .ok (.istore_n 3, 1) := by decide +kernel
theorem dX7_pinnedBy_16 : decode cX7_pinnedBy 16 = .ok (.iload_n 3, 1) := by decide +kernel
theorem dX7_pinnedBy_17 : decode cX7_pinnedBy 17 = .ok (.bipush 32, 2) := by decide +kernel
theorem dX7_pinnedBy_19 : decode cX7_pinnedBy 19 = .ok (.if_icmp .ge 68, 3) := by decide +kernel
theorem dX7_pinnedBy_22 : decode cX7_pinnedBy 22 = .ok (.aload_n 0, 1) := by decide +kernel
theorem dX7_pinnedBy_23 : decode cX7_pinnedBy 23 = .ok (.iload_n 3, 1) := by decide +kernel
theorem dX7_pinnedBy_24 : decode cX7_pinnedBy 24 = .ok (.invokevirtual 89, 3) := by decide +kernel
theorem dX7_pinnedBy_27 : decode cX7_pinnedBy 27 = .ok (.ifCond .eq 21, 3) := by decide +kernel
theorem dX7_pinnedBy_30 : decode cX7_pinnedBy 30 = .ok (.aload_n 0, 1) := by decide +kernel
theorem dX7_pinnedBy_31 : decode cX7_pinnedBy 31 = .ok (.getfield 22, 3) := by decide +kernel
theorem dX7_pinnedBy_34 : decode cX7_pinnedBy 34 = .ok (.iload_n 3, 1) := by decide +kernel
theorem dX7_pinnedBy_35 : decode cX7_pinnedBy 35 = .ok (.iaload, 1) := by decide +kernel
theorem dX7_pinnedBy_36 : decode cX7_pinnedBy 36 = .ok (.iload_n 1, 1) := by decide +kernel
theorem dX7_pinnedBy_37 : decode cX7_pinnedBy 37 = .ok (.ishr, 1) := by decide +kernel
theorem dX7_pinnedBy_38 : decode cX7_pinnedBy 38 = .ok (.iconst 1, 1) := by decide +kernel
theorem dX7_pinnedBy_39 : decode cX7_pinnedBy 39 = .ok (.iand, 1) := by decide +kernel
theorem dX7_pinnedBy_40 : decode cX7_pinnedBy 40 = .ok (.iconst 1, 1) := by decide +kernel
theorem dX7_pinnedBy_41 : decode cX7_pinnedBy 41 = .ok (.if_icmp .ne 7, 3) := by decide +kernel
theorem dX7_pinnedBy_44 : decode cX7_pinnedBy 44 = .ok (.iconst 1, 1) := by decide +kernel
theorem dX7_pinnedBy_45 : decode cX7_pinnedBy 45 = .ok (.goto 4, 3) := by decide +kernel
theorem dX7_pinnedBy_48 : decode cX7_pinnedBy 48 = .ok (.iconst 0, 1) := by decide +kernel
theorem dX7_pinnedBy_49 : decode cX7_pinnedBy 49 = .ok (.istore 4, 2) := by decide +kernel
theorem dX7_pinnedBy_51 : decode cX7_pinnedBy 51 = .ok (.iload 4, 2) := by decide +kernel
theorem dX7_pinnedBy_53 : decode cX7_pinnedBy 53 = .ok (.ifCond .eq 26, 3) := by decide +kernel
theorem dX7_pinnedBy_56 : decode cX7_pinnedBy 56 = .ok (.iload_n 2, 1) := by decide +kernel
theorem dX7_pinnedBy_57 : decode cX7_pinnedBy 57 = .ok (.ifCond .lt 13, 3) := by decide +kernel
theorem dX7_pinnedBy_60 : decode cX7_pinnedBy 60 = .ok (.aload_n 0, 1) := by decide +kernel
theorem dX7_pinnedBy_61 : decode cX7_pinnedBy 61 = .ok (.getfield 19, 3) := by decide +kernel
theorem dX7_pinnedBy_64 : decode cX7_pinnedBy 64 = .ok (.iload_n 3, 1) := by decide +kernel
theorem dX7_pinnedBy_65 : decode cX7_pinnedBy 65 = .ok (.iaload, 1) := by decide +kernel
theorem dX7_pinnedBy_66 : decode cX7_pinnedBy 66 = .ok (.iload_n 2, 1) := by decide +kernel
theorem dX7_pinnedBy_67 : decode cX7_pinnedBy 67 = .ok (.if_icmp .ge 12, 3) := by decide +kernel
theorem dX7_pinnedBy_70 : decode cX7_pinnedBy 70 = .ok (.aload_n 0, 1) := by decide +kernel
theorem dX7_pinnedBy_71 : decode cX7_pinnedBy 71 = .ok (.getfield 19, 3) := by decide +kernel
theorem dX7_pinnedBy_74 : decode cX7_pinnedBy 74 = .ok (.iload_n 3, 1) := by decide +kernel
theorem dX7_pinnedBy_75 : decode cX7_pinnedBy 75 = .ok (.iaload, 1) := by decide +kernel
theorem dX7_pinnedBy_76 : decode cX7_pinnedBy 76 = .ok (.goto 4, 3) := by decide +kernel
theorem dX7_pinnedBy_79 : decode cX7_pinnedBy 79 = .ok (.iload_n 2, 1) := by decide +kernel
theorem dX7_pinnedBy_80 : decode cX7_pinnedBy 80 = .ok (.istore_n 2, 1) := by decide +kernel
theorem dX7_pinnedBy_81 : decode cX7_pinnedBy 81 = .ok (.iinc 3 1, 3) := by decide +kernel
theorem dX7_pinnedBy_84 : decode cX7_pinnedBy 84 = .ok (.goto (-68), 3) := by decide +kernel
theorem dX7_pinnedBy_87 : decode cX7_pinnedBy 87 = .ok (.iload_n 2, 1) := by decide +kernel
theorem dX7_pinnedBy_88 : decode cX7_pinnedBy 88 = .ok (.ireturn, 1) := by decide +kernel
set_option maxRecDepth 20000 in
theorem ggX7_outdated_X7_isClass : GoodIn wsX7_outdated wsX7_isClass := goodIn_r _ [10, 11, 12, 13, 9, 14, 27, 28, 29, 30, 31, 32, 33, 34, 35, 36, 37, 38] (by decide +kernel) (by decide +kernel)
set_option maxRecDepth 20000 in
theorem gX7_outdated_X7_isClass : GoodIn wsX7_outdated (wsV RX7 58 RX7 yX7_isClass wsX7_isClass) := goodIn_app (goodIn_of _ (by decide +kernel)) ggX7_outdated_X7_isClass
set_option maxRecDepth 20000 in
theorem ggX7_outdated_X7_current : GoodIn wsX7_outdated wsX7_current := goodIn_r _ [18, 19, 20, 21, 9, 22, 23, 24, 25, 26, 27, 28, 29, 30, 31, 32, 33, 34, 35, 36, 37, 38] (by decide +kernel) (by decide +kernel)
set_option maxRecDepth 20000 in
theorem gX7_outdated_X7_current : GoodIn wsX7_outdated (wsV RX7 62 RX7 yX7_current wsX7_current) := goodIn_app (goodIn_of _ (by decide +kernel)) ggX7_outdated_X7_current
theorem dX7_outdated_0 : decode cX7_outdated 0 = .ok (.aload_n 0, 1) := by decide +kernel
theorem dX7_outdated_1 : decode cX7_outdated 1 = .ok (.iload_n 1, 1) := by decide +kernel
theorem dX7_outdated_2 : decode cX7_outdated 2 = .ok (.invokevirtual 58, 3) := by decide +kernel
theorem dX7_outdated_5 : decode cX7_outdated 5 = .ok (.ifCond .ne 6, 3) := by decide +kernel
theorem dX7_outdated_8 : decode cX7_outdated 8 = .ok (.ldc 66, 2) := by decide +kernel
theorem dX7_outdated_10 : decode cX7_outdated 10 = .ok (.ireturn, 1) := by decide +kernel
theorem dX7_outdated_11 : decode cX7_outdated 11 = .ok (.iconst 0, 1) := by decide +kernel
theorem dX7_outdated_12 : decode cX7_outdated 12 = .ok (.istore_n 2, 1) := by decide +kernel
theorem dX7_outdated_13 : decode cX7_outdated 13 = .ok (.iconst 0, 1) := by decide +kernel
theorem dX7_outdated_14 : decode cX7_outdated 14 = .ok (.istore_n 3, 1) := by decide +kernel
theorem dX7_outdated_15 : decode cX7_outdated 15 = .ok (.iload_n 3, 1) := by decide +kernel
theorem dX7_outdated_16 : decode cX7_outdated 16 = .ok (.aload_n 0, 1) := by decide +kernel
theorem dX7_outdated_17 : decode cX7_outdated 17 = .ok (.getfield 96, 3) := by decide +kernel
theorem dX7_outdated_20 : decode cX7_outdated 20 = .ok (.if_icmp .ge 50, 3) := by decide +kernel
theorem dX7_outdated_23 : decode cX7_outdated 23 = .ok (.iload_n 2, 1) := by decide +kernel
theorem dX7_outdated_24 : decode cX7_outdated 24 = .ok (.aload_n 0, 1) := by decide +kernel
theorem dX7_outdated_25 : decode cX7_outdated 25 = .ok (.getfield 25, 3) := by decide +kernel
theorem dX7_outdated_28 : decode cX7_outdated 28 = .ok (.iload_n 3, 1) := by decide +kernel
theorem dX7_outdated_29 : decode cX7_outdated 29 = .ok (.baload, 1) := by decide +kernel
theorem dX7_outdated_30 : decode cX7_outdated 30 = .ok (.ifCond .eq 31, 3) := by decide +kernel
theorem dX7_outdated_33 : decode cX7_outdated 33 = .ok (.aload_n 0, 1) := by decide +kernel
theorem dX7_outdated_34 : decode cX7_outdated 34 = .ok (.getfield 29, 3) := by decide +kernel
theorem dX7_outdated_37 : decode cX7_outdated 37 = .ok (.iload_n 3, 1) := by decide +kernel
theorem dX7_outdated_38 : decode cX7_outdated 38 = .ok (.iaload, 1) := by decide +kernel
theorem dX7_outdated_39 : decode cX7_outdated 39 = .ok (.iload_n 1, 1) := by decide +kernel
theorem dX7_outdated_40 : decode cX7_outdated 40 = .ok (.if_icmp .ne 21, 3) := by decide +kernel
theorem dX7_outdated_43 : decode cX7_outdated 43 = .ok (.aload_n 0, 1) := by decide +kernel
theorem dX7_outdated_44 : decode cX7_outdated 44 = .ok (.getfield 32, 3) := by decide +kernel
theorem dX7_outdated_47 : decode cX7_outdated 47 = .ok (.iload_n 3, 1) := by decide +kernel
theorem dX7_outdated_48 : decode cX7_outdated 48 = .ok (.iaload, 1) := by decide +kernel
theorem dX7_outdated_49 : decode cX7_outdated 49 = .ok (.aload_n 0, 1) := by decide +kernel
theorem dX7_outdated_50 : decode cX7_outdated 50 = .ok (.iload_n 1, 1) := by decide +kernel
theorem dX7_outdated_51 : decode cX7_outdated 51 = .ok (.invokevirtual 62, 3) := by decide +kernel
theorem dX7_outdated_54 : decode cX7_outdated 54 = .ok (.if_icmp .eq 7, 3) := by decide +kernel
theorem dX7_outdated_57 : decode cX7_outdated 57 = .ok (.iconst 1, 1) := by decide +kernel
theorem dX7_outdated_58 : decode cX7_outdated 58 = .ok (.goto 4, 3) := by decide +kernel
theorem dX7_outdated_61 : decode cX7_outdated 61 = .ok (.iconst 0, 1) := by decide +kernel
theorem dX7_outdated_62 : decode cX7_outdated 62 = .ok (.iadd, 1) := by decide +kernel
theorem dX7_outdated_63 : decode cX7_outdated 63 = .ok (.istore_n 2, 1) := by decide +kernel
theorem dX7_outdated_64 : decode cX7_outdated 64 = .ok (.iinc 3 1, 3) := by decide +kernel
theorem dX7_outdated_67 : decode cX7_outdated 67 = .ok (.goto (-52), 3) := by decide +kernel
theorem dX7_outdated_70 : decode cX7_outdated 70 = .ok (.iload_n 2, 1) := by decide +kernel
theorem dX7_outdated_71 : decode cX7_outdated 71 = .ok (.ireturn, 1) := by decide +kernel
set_option maxRecDepth 20000 in
theorem ggX7_convertAll_X7_isClass : GoodIn wsX7_convertAll wsX7_isClass := goodIn_r _ [10, 11, 12, 13, 9, 14, 56, 57, 58, 59, 60, 61, 62, 63, 64, 65, 66, 67] (by decide +kernel) (by decide +kernel)
set_option maxRecDepth 20000 in
theorem gX7_convertAll_X7_isClass : GoodIn wsX7_convertAll (wsV RX7 58 RX7 yX7_isClass wsX7_isClass) := goodIn_app (goodIn_of _ (by decide +kernel)) ggX7_convertAll_X7_isClass
set_option maxRecDepth 20000 in
theorem ggX7_convertAll_X7_current : GoodIn wsX7_convertAll wsX7_current := goodIn_r _ [18, 19, 20, 21, 9, 22, 23, 24, 25, 26, 56, 57, 58, 59, 60, 61, 62, 63, 64, 65, 66, 67] (by decide +kernel) (by decide +kernel)
set_option maxRecDepth 20000 in
theorem gX7_convertAll_X7_current : GoodIn wsX7_convertAll (wsV RX7 62 RX7 yX7_current wsX7_current) := goodIn_app (goodIn_of _ (by decide +kernel)) ggX7_convertAll_X7_current
set_option maxRecDepth 20000 in
theorem ggX7_convertAll_X7_isHeldBelow : GoodIn wsX7_convertAll wsX7_isHeldBelow := goodIn_r _ [30, 31, 32, 33, 34, 35, 9, 36, 37, 56, 57, 58, 59, 60, 61, 62, 63, 64, 65, 66, 67] (by decide +kernel) (by decide +kernel)
set_option maxRecDepth 20000 in
theorem gX7_convertAll_X7_isHeldBelow : GoodIn wsX7_convertAll (wsV RX7 127 RX7 yX7_isHeldBelow wsX7_isHeldBelow) := goodIn_app (goodIn_of _ (by decide +kernel)) ggX7_convertAll_X7_isHeldBelow
set_option maxRecDepth 20000 in
theorem ggX7_convertAll_X7_convert : GoodIn wsX7_convertAll wsX7_convert := goodIn_r _ [41, 5, 42, 43, 44, 9, 45, 4, 46, 23, 47, 48, 49, 50, 51, 52, 53, 54, 55, 19, 20, 21, 22, 24, 25, 26, 12, 13, 14, 56, 57, 58, 59, 60, 61, 62, 63, 64, 65, 66, 67] (by decide +kernel) (by decide +kernel)
set_option maxRecDepth 20000 in
theorem gX7_convertAll_X7_convert : GoodIn wsX7_convertAll (wsV RX7 131 RX7 yX7_convert wsX7_convert) := goodIn_app (goodIn_of _ (by decide +kernel)) ggX7_convertAll_X7_convert
theorem dX7_convertAll_0 : decode cX7_convertAll 0 = .ok (.aload_n 0, 1) := by decide +kernel
theorem dX7_convertAll_1 : decode cX7_convertAll 1 = .ok (.iload_n 1, 1) := by decide +kernel
theorem dX7_convertAll_2 : decode cX7_convertAll 2 = .ok (.invokevirtual 58, 3) := by decide +kernel
theorem dX7_convertAll_5 : decode cX7_convertAll 5 = .ok (.ifCond .ne 6, 3) := by decide +kernel
theorem dX7_convertAll_8 : decode cX7_convertAll 8 = .ok (.ldc 66, 2) := by decide +kernel
theorem dX7_convertAll_10 : decode cX7_convertAll 10 = .ok (.ireturn, 1) := by decide +kernel
theorem dX7_convertAll_11 : decode cX7_convertAll 11 = .ok (.aload_n 0, 1) := by decide +kernel
theorem dX7_convertAll_12 : decode cX7_convertAll 12 = .ok (.iload_n 1, 1) := by decide +kernel
theorem dX7_convertAll_13 : decode cX7_convertAll 13 = .ok (.invokevirtual 62, 3) := by decide +kernel
theorem dX7_convertAll_16 : decode cX7_convertAll 16 = .ok (.istore_n 2, 1) := by decide +kernel
theorem dX7_convertAll_17 : decode cX7_convertAll 17 = .ok (.iconst 0, 1) := by decide +kernel
theorem dX7_convertAll_18 : decode cX7_convertAll 18 = .ok (.istore_n 3, 1) := by decide +kernel
theorem dX7_convertAll_19 : decode cX7_convertAll 19 = .ok (.iconst 0, 1) := by decide +kernel
theorem dX7_convertAll_20 : decode cX7_convertAll 20 = .ok (.istore 4, 2) := by decide +kernel
theorem dX7_convertAll_22 : decode cX7_convertAll 22 = .ok (.iload 4, 2) := by decide +kernel
theorem dX7_convertAll_24 : decode cX7_convertAll 24 = .ok (.aload_n 0, 1) := by decide +kernel
theorem dX7_convertAll_25 : decode cX7_convertAll 25 = .ok (.getfield 96, 3) := by decide +kernel
theorem dX7_convertAll_28 : decode cX7_convertAll 28 = .ok (.if_icmp .ge 81, 3) := by decide +kernel
theorem dX7_convertAll_31 : decode cX7_convertAll 31 = .ok (.aload_n 0, 1) := by decide +kernel
theorem dX7_convertAll_32 : decode cX7_convertAll 32 = .ok (.getfield 25, 3) := by decide +kernel
theorem dX7_convertAll_35 : decode cX7_convertAll 35 = .ok (.iload 4, 2) := by decide +kernel
theorem dX7_convertAll_37 : decode cX7_convertAll 37 = .ok (.baload, 1) := by decide +kernel
theorem dX7_convertAll_38 : decode cX7_convertAll 38 = .ok (.ifCond .eq 39, 3) := by decide +kernel
theorem dX7_convertAll_41 : decode cX7_convertAll 41 = .ok (.aload_n 0, 1) := by decide +kernel
theorem dX7_convertAll_42 : decode cX7_convertAll 42 = .ok (.getfield 29, 3) := by decide +kernel
theorem dX7_convertAll_45 : decode cX7_convertAll 45 = .ok (.iload 4, 2) := by decide +kernel
theorem dX7_convertAll_47 : decode cX7_convertAll 47 = .ok (.iaload, 1) := by decide +kernel
theorem dX7_convertAll_48 : decode cX7_convertAll 48 = .ok (.iload_n 1, 1) := by decide +kernel
theorem dX7_convertAll_49 : decode cX7_convertAll 49 = .ok (.if_icmp .ne 28, 3) := by decide +kernel
theorem dX7_convertAll_52 : decode cX7_convertAll 52 = .ok (.aload_n 0, 1) := by decide +kernel
theorem dX7_convertAll_53 : decode cX7_convertAll 53 = .ok (.getfield 32, 3) := by decide +kernel
theorem dX7_convertAll_56 : decode cX7_convertAll 56 = .ok (.iload 4, 2) := by decide +kernel
theorem dX7_convertAll_58 : decode cX7_convertAll 58 = .ok (.iaload, 1) := by decide +kernel
theorem dX7_convertAll_59 : decode cX7_convertAll 59 = .ok (.iload_n 2, 1) := by decide +kernel
theorem dX7_convertAll_60 : decode cX7_convertAll 60 = .ok (.if_icmp .ge 17, 3) := by decide +kernel
theorem dX7_convertAll_63 : decode cX7_convertAll 63 = .ok (.aload_n 0, 1) := by decide +kernel
theorem dX7_convertAll_64 : decode cX7_convertAll 64 = .ok (.iload 4, 2) := by decide +kernel
theorem dX7_convertAll_66 : decode cX7_convertAll 66 = .ok (.iload_n 2, 1) := by decide +kernel
theorem dX7_convertAll_67 : decode cX7_convertAll 67 = .ok (.invokevirtual 127, 3) := by decide +kernel
theorem dX7_convertAll_70 : decode cX7_convertAll 70 = .ok (.ifCond .ne 7, 3) := by decide +kernel
theorem dX7_convertAll_73 : decode cX7_convertAll 73 = .ok (.iconst 1, 1) := by decide +kernel
theorem dX7_convertAll_74 : decode cX7_convertAll 74 = .ok (.goto 4, 3) := by decide +kernel
theorem dX7_convertAll_77 : decode cX7_convertAll 77 = .ok (.iconst 0, 1) := by decide +kernel
theorem dX7_convertAll_78 : decode cX7_convertAll 78 = .ok (.istore 5, 2) := by decide +kernel
theorem dX7_convertAll_80 : decode cX7_convertAll 80 = .ok (.iload_n 3, 1) := by decide +kernel
theorem dX7_convertAll_81 : decode cX7_convertAll 81 = .ok (.iload 5, 2) := by decide +kernel
theorem dX7_convertAll_83 : decode cX7_convertAll 83 = .ok (.ifCond .eq 17, 3) := by decide +kernel
theorem dX7_convertAll_86 : decode cX7_convertAll 86 = .ok (.aload_n 0, 1) := by decide +kernel
theorem dX7_convertAll_87 : decode cX7_convertAll 87 = .ok (.iload 4, 2) := by decide +kernel
theorem dX7_convertAll_89 : decode cX7_convertAll 89 = .ok (.iload_n 2, 1) := by decide +kernel
theorem dX7_convertAll_90 : decode cX7_convertAll 90 = .ok (.invokevirtual 131, 3) := by decide +kernel
theorem dX7_convertAll_93 : decode cX7_convertAll 93 = .ok (.ifCond .eq 7, 3) := by decide +kernel
theorem dX7_convertAll_96 : decode cX7_convertAll 96 = .ok (.iconst 1, 1) := by decide +kernel
theorem dX7_convertAll_97 : decode cX7_convertAll 97 = .ok (.goto 4, 3) := by decide +kernel
theorem dX7_convertAll_100 : decode cX7_convertAll 100 = .ok (.iconst 0, 1) := by decide +kernel
theorem dX7_convertAll_101 : decode cX7_convertAll 101 = .ok (.iadd, 1) := by decide +kernel
theorem dX7_convertAll_102 : decode cX7_convertAll 102 = .ok (.istore_n 3, 1) := by decide +kernel
theorem dX7_convertAll_103 : decode cX7_convertAll 103 = .ok (.iinc 4 1, 3) := by decide +kernel
theorem dX7_convertAll_106 : decode cX7_convertAll 106 = .ok (.goto (-84), 3) := by decide +kernel
theorem dX7_convertAll_109 : decode cX7_convertAll 109 = .ok (.iload_n 3, 1) := by decide +kernel
theorem dX7_convertAll_110 : decode cX7_convertAll 110 = .ok (.ireturn, 1) := by decide +kernel
end
section
set_option maxRecDepth 20000 in
theorem ggL_law_X6_init : GoodIn wsL_law wsX6_init := goodIn_r _ [8, 9, 10, 11, 12, 13, 14, 15, 16, 17, 18, 19, 20, 21, 22, 23, 24, 599, 600, 601, 602, 603, 616, 617] (by decide +kernel) (by decide +kernel)
set_option maxRecDepth 20000 in
theorem gL_law_X6_init : GoodIn wsL_law (wsX6_init) := ggL_law_X6_init
set_option maxRecDepth 20000 in
theorem ggL_law_X7_init : GoodIn wsL_law wsX7_init := goodIn_r _ [27, 28, 10, 11, 29, 30, 31, 32, 33, 34, 35, 36, 37, 38, 39, 40, 604, 605, 606, 607, 608, 609, 610, 611, 612, 613, 614, 615] (by decide +kernel) (by decide +kernel)
set_option maxRecDepth 20000 in
theorem gL_law_X7_init : GoodIn wsL_law (wsX7_init) := ggL_law_X7_init
set_option maxRecDepth 20000 in
theorem ggL_law_X6_addClass : GoodIn wsL_law wsX6_addClass := goodIn_r _ [44, 45, 46, 47, 13, 12, 48, 49, 50, 51, 52, 53, 10, 11, 29, 54, 55, 56, 57, 58, 59, 60, 61, 62, 63, 64, 599, 600, 601, 602, 603, 618, 619, 620, 621, 622, 623, 624] (by decide +kernel) (by decide +kernel)
set_option maxRecDepth 20000 in
theorem gL_law_X6_addClass : GoodIn wsL_law (wsV RL 13 RX6 yX6_addClass wsX6_addClass) := goodIn_app (goodIn_of _ (by decide +kernel)) ggL_law_X6_addClass
set_option maxRecDepth 20000 in
theorem ggL_law_X7_addClass : GoodIn wsL_law wsX7_addClass := goodIn_r _ [68, 69, 70, 71, 30, 72, 73, 5, 74, 75, 76, 77, 604, 605, 606, 607, 608, 609, 610, 611, 612, 613, 614, 615] (by decide +kernel) (by decide +kernel)
set_option maxRecDepth 20000 in
theorem gL_law_X7_addClass : GoodIn wsL_law (wsV RL 17 RX7 yX7_addClass wsX7_addClass) := goodIn_app (goodIn_of _ (by decide +kernel)) ggL_law_X7_addClass
set_option maxRecDepth 20000 in
theorem ggL_law_X6_currentVersion : GoodIn wsL_law wsX6_currentVersion := goodIn_r _ [81, 82, 83, 84, 85, 2, 86, 46, 13, 618, 619, 620, 621, 622, 599, 600, 601, 602, 603] (by decide +kernel) (by decide +kernel)
set_option maxRecDepth 20000 in
theorem gL_law_X6_currentVersion : GoodIn wsL_law (wsV RL 18 RX6 yX6_currentVersion wsX6_currentVersion) := goodIn_app (goodIn_of _ (by decide +kernel)) ggL_law_X6_currentVersion
set_option maxRecDepth 20000 in
theorem ggL_law_X7_currentVersion : GoodIn wsL_law wsX7_currentVersion := goodIn_r _ [90, 91, 92, 93, 94, 5, 95, 70, 72, 73, 74, 96, 97, 98, 99, 100, 101, 102, 103, 30, 75, 76, 77, 604, 605, 606, 607, 608, 609, 610, 611, 612, 613, 614, 615] (by decide +kernel) (by decide +kernel)
set_option maxRecDepth 20000 in
theorem gL_law_X7_currentVersion : GoodIn wsL_law (wsV RL 21 RX7 yX7_currentVersion wsX7_currentVersion) := goodIn_app (goodIn_of _ (by decide +kernel)) ggL_law_X7_currentVersion
set_option maxRecDepth 20000 in
theorem ggL_law_X6_fields : GoodIn wsL_law wsX6_fields := goodIn_r _ [107, 82, 108, 83, 84, 85, 2, 86, 46, 13, 109, 110, 111, 49, 112, 54, 618, 619, 620, 621, 622, 599, 600, 601, 602, 603] (by decide +kernel) (by decide +kernel)
set_option maxRecDepth 20000 in
theorem gL_law_X6_fields : GoodIn wsL_law (wsV RL 22 RX6 yX6_fields wsX6_fields) := goodIn_app (goodIn_of _ (by decide +kernel)) ggL_law_X6_fields
set_option maxRecDepth 20000 in
theorem ggL_law_X7_fields : GoodIn wsL_law wsX7_fields := goodIn_r _ [116, 91, 117, 92, 93, 94, 5, 95, 70, 72, 73, 74, 96, 97, 98, 99, 100, 101, 102, 103, 30, 75, 76, 77, 604, 605, 606, 607, 608, 609, 610, 611, 612, 613, 614, 615] (by decide +kernel) (by decide +kernel)
set_option maxRecDepth 20000 in
theorem gL_law_X7_fields : GoodIn wsL_law (wsV RL 26 RX7 yX7_fields wsX7_fields) := goodIn_app (goodIn_of _ (by decide +kernel)) ggL_law_X7_fields
set_option maxRecDepth 20000 in
theorem ggL_law_X6_stage : GoodIn wsL_law wsX6_stage := goodIn_r _ [121, 82, 122, 83, 84, 85, 2, 86, 46, 13, 123, 124, 125, 49, 126, 127, 54, 128, 56, 129, 130, 131, 132, 133, 134, 135, 136, 59, 137, 138, 618, 619, 620, 621, 622, 599, 600, 601, 602, 603, 623, 624] (by decide +kernel) (by decide +kernel)
set_option maxRecDepth 20000 in
theorem gL_law_X6_stage : GoodIn wsL_law (wsV RL 27 RX6 yX6_stage wsX6_stage) := goodIn_app (goodIn_of _ (by decide +kernel)) ggL_law_X6_stage
set_option maxRecDepth 20000 in
theorem ggL_law_X7_stage : GoodIn wsL_law wsX7_stage := goodIn_r _ [142, 91, 143, 71, 30, 92, 93, 94, 5, 95, 70, 72, 73, 74, 100, 101, 102, 103, 75, 76, 77, 604, 605, 606, 607, 608, 609, 610, 611, 612, 613, 614, 615] (by decide +kernel) (by decide +kernel)
set_option maxRecDepth 20000 in
theorem gL_law_X7_stage : GoodIn wsL_law (wsV RL 30 RX7 yX7_stage wsX7_stage) := goodIn_app (goodIn_of _ (by decide +kernel)) ggL_law_X7_stage
set_option maxRecDepth 20000 in
theorem ggL_law_X6_stagedFields : GoodIn wsL_law wsX6_stagedFields := goodIn_r _ [147, 82, 148, 83, 84, 85, 2, 86, 46, 13, 149, 150, 151, 49, 152, 128, 153, 110, 111, 112, 54, 618, 619, 620, 621, 622, 599, 600, 601, 602, 603] (by decide +kernel) (by decide +kernel)
set_option maxRecDepth 20000 in
theorem gL_law_X6_stagedFields : GoodIn wsL_law (wsV RL 31 RX6 yX6_stagedFields wsX6_stagedFields) := goodIn_app (goodIn_of _ (by decide +kernel)) ggL_law_X6_stagedFields
set_option maxRecDepth 20000 in
theorem ggL_law_X7_stagedFields : GoodIn wsL_law wsX7_stagedFields := goodIn_r _ [157, 158, 159, 160, 5, 161, 91, 162, 92, 93, 94, 95, 70, 72, 73, 74, 100, 101, 102, 103, 30, 75, 76, 77, 163, 164, 165, 166, 604, 605, 606, 607, 608, 609, 610, 611, 612, 613, 614, 615] (by decide +kernel) (by decide +kernel)
set_option maxRecDepth 20000 in
theorem gL_law_X7_stagedFields : GoodIn wsL_law (wsV RL 34 RX7 yX7_stagedFields wsX7_stagedFields) := goodIn_app (goodIn_of _ (by decide +kernel)) ggL_law_X7_stagedFields
set_option maxRecDepth 20000 in
theorem ggL_law_X6_addField : GoodIn wsL_law wsX6_addField := goodIn_r _ [170, 82, 148, 45, 122, 83, 84, 85, 2, 86, 46, 13, 171, 172, 173, 174, 175, 176, 177, 178, 149, 150, 151, 49, 152, 128, 153, 110, 111, 112, 54, 179, 180, 181, 182, 183, 184, 185, 56, 127, 186, 187, 188, 130, 131, 132, 133, 189, 190, 191, 59, 192, 138, 193, 194, 195, 196, 10, 11, 197, 198, 199, 200, 201, 202, 203, 204, 205, 206, 207, 208, 64, 209, 618, 619, 620, 621, 622, 599, 600, 601, 602, 603, 625, 626, 627, 623, 624] (by decide +kernel) (by decide +kernel)
set_option maxRecDepth 20000 in
theorem gL_law_X6_addField : GoodIn wsL_law (wsV RL 35 RX6 yX6_addField wsX6_addField) := goodIn_app (goodIn_of _ (by decide +kernel)) ggL_law_X6_addField
set_option maxRecDepth 20000 in
theorem ggL_law_X7_addField : GoodIn wsL_law wsX7_addField := goodIn_r _ [213, 214, 215, 69, 143, 158, 159, 160, 5, 161, 91, 162, 92, 93, 94, 95, 70, 72, 73, 74, 100, 101, 102, 103, 30, 75, 76, 77, 163, 164, 165, 166, 216, 217, 218, 219, 220, 221, 222, 71, 604, 605, 606, 607, 608, 609, 610, 611, 612, 613, 614, 615] (by decide +kernel) (by decide +kernel)
set_option maxRecDepth 20000 in
theorem gL_law_X7_addField : GoodIn wsL_law (wsV RL 39 RX7 yX7_addField wsX7_addField) := goodIn_app (goodIn_of _ (by decide +kernel)) ggL_law_X7_addField
set_option maxRecDepth 20000 in
theorem ggL_law_X6_dropField : GoodIn wsL_law wsX6_dropField := goodIn_r _ [226, 82, 148, 227, 83, 84, 85, 2, 86, 46, 13, 149, 150, 151, 49, 152, 128, 153, 110, 111, 112, 54, 179, 180, 181, 171, 172, 173, 182, 183, 184, 185, 56, 127, 186, 187, 188, 130, 131, 132, 133, 189, 190, 191, 59, 192, 138, 193, 194, 195, 196, 10, 11, 197, 198, 199, 200, 201, 202, 203, 204, 205, 206, 207, 208, 64, 209, 618, 619, 620, 621, 622, 599, 600, 601, 602, 603, 625, 626, 627, 623, 624] (by decide +kernel) (by decide +kernel)
set_option maxRecDepth 20000 in
theorem gL_law_X6_dropField : GoodIn wsL_law (wsV RL 40 RX6 yX6_dropField wsX6_dropField) := goodIn_app (goodIn_of _ (by decide +kernel)) ggL_law_X6_dropField
set_option maxRecDepth 20000 in
theorem ggL_law_X7_dropField : GoodIn wsL_law wsX7_dropField := goodIn_r _ [231, 232, 158, 159, 160, 5, 161, 91, 162, 92, 93, 94, 95, 70, 72, 73, 74, 100, 101, 102, 103, 30, 75, 76, 77, 163, 164, 165, 166, 216, 217, 218, 219, 220, 221, 222, 71, 604, 605, 606, 607, 608, 609, 610, 611, 612, 613, 614, 615] (by decide +kernel) (by decide +kernel)
set_option maxRecDepth 20000 in
theorem gL_law_X7_dropField : GoodIn wsL_law (wsV RL 43 RX7 yX7_dropField wsX7_dropField) := goodIn_app (goodIn_of _ (by decide +kernel)) ggL_law_X7_dropField
set_option maxRecDepth 20000 in
theorem ggL_law_X6_renameField : GoodIn wsL_law wsX6_renameField := goodIn_r _ [236, 82, 148, 227, 45, 122, 83, 84, 85, 2, 86, 46, 13, 149, 150, 151, 49, 152, 128, 153, 110, 111, 112, 54, 179, 180, 181, 171, 172, 173, 182, 183, 184, 185, 56, 127, 186, 187, 188, 130, 131, 132, 133, 189, 190, 191, 59, 192, 138, 193, 194, 195, 196, 10, 11, 197, 198, 199, 200, 201, 202, 203, 204, 205, 206, 207, 208, 64, 209, 618, 619, 620, 621, 622, 599, 600, 601, 602, 603, 625, 626, 627, 623, 624] (by decide +kernel) (by decide +kernel)
set_option maxRecDepth 20000 in
theorem gL_law_X6_renameField : GoodIn wsL_law (wsV RL 44 RX6 yX6_renameField wsX6_renameField) := goodIn_app (goodIn_of _ (by decide +kernel)) ggL_law_X6_renameField
set_option maxRecDepth 20000 in
theorem ggL_law_X7_renameField : GoodIn wsL_law wsX7_renameField := goodIn_r _ [240, 232, 69, 143, 158, 159, 160, 5, 161, 91, 162, 92, 93, 94, 95, 70, 72, 73, 74, 100, 101, 102, 103, 30, 75, 76, 77, 163, 164, 165, 166, 216, 217, 218, 219, 220, 221, 222, 71, 604, 605, 606, 607, 608, 609, 610, 611, 612, 613, 614, 615] (by decide +kernel) (by decide +kernel)
set_option maxRecDepth 20000 in
theorem gL_law_X7_renameField : GoodIn wsL_law (wsV RL 47 RX7 yX7_renameField wsX7_renameField) := goodIn_app (goodIn_of _ (by decide +kernel)) ggL_law_X7_renameField
set_option maxRecDepth 20000 in
theorem ggL_law_X6_scaleField : GoodIn wsL_law wsX6_scaleField := goodIn_r _ [244, 82, 148, 227, 245, 246, 45, 83, 84, 85, 2, 86, 46, 13, 149, 150, 151, 49, 152, 128, 153, 110, 111, 112, 54, 179, 180, 181, 171, 172, 173, 182, 183, 184, 185, 56, 127, 186, 187, 188, 130, 131, 132, 133, 189, 190, 191, 59, 192, 138, 193, 194, 195, 196, 10, 11, 197, 198, 199, 200, 201, 202, 203, 204, 205, 206, 207, 208, 64, 209, 618, 619, 620, 621, 622, 599, 600, 601, 602, 603, 625, 626, 627, 623, 624] (by decide +kernel) (by decide +kernel)
set_option maxRecDepth 20000 in
theorem gL_law_X6_scaleField : GoodIn wsL_law (wsV RL 48 RX6 yX6_scaleField wsX6_scaleField) := goodIn_app (goodIn_of _ (by decide +kernel)) ggL_law_X6_scaleField
set_option maxRecDepth 20000 in
theorem ggL_law_X7_scaleField : GoodIn wsL_law wsX7_scaleField := goodIn_r _ [250, 232, 251, 252, 69, 158, 159, 160, 5, 161, 91, 162, 92, 93, 94, 95, 70, 72, 73, 74, 100, 101, 102, 103, 30, 75, 76, 77, 163, 164, 165, 166, 216, 217, 218, 219, 220, 221, 222, 71, 604, 605, 606, 607, 608, 609, 610, 611, 612, 613, 614, 615] (by decide +kernel) (by decide +kernel)
set_option maxRecDepth 20000 in
theorem gL_law_X7_scaleField : GoodIn wsL_law (wsV RL 51 RX7 yX7_scaleField wsX7_scaleField) := goodIn_app (goodIn_of _ (by decide +kernel)) ggL_law_X7_scaleField
set_option maxRecDepth 20000 in
theorem ggL_law_X6_mergeField : GoodIn wsL_law wsX6_mergeField := goodIn_r _ [256, 82, 148, 227, 45, 83, 84, 85, 2, 86, 46, 13, 149, 150, 151, 49, 152, 128, 153, 110, 111, 112, 54, 179, 180, 181, 171, 172, 173, 182, 183, 184, 185, 56, 127, 186, 187, 188, 130, 131, 132, 133, 189, 190, 191, 59, 192, 138, 193, 194, 195, 196, 10, 11, 197, 198, 199, 200, 201, 202, 203, 204, 205, 206, 207, 208, 64, 209, 618, 619, 620, 621, 622, 599, 600, 601, 602, 603, 625, 626, 627, 623, 624] (by decide +kernel) (by decide +kernel)
set_option maxRecDepth 20000 in
theorem gL_law_X6_mergeField : GoodIn wsL_law (wsV RL 52 RX6 yX6_mergeField wsX6_mergeField) := goodIn_app (goodIn_of _ (by decide +kernel)) ggL_law_X6_mergeField
set_option maxRecDepth 20000 in
theorem ggL_law_X7_mergeField : GoodIn wsL_law wsX7_mergeField := goodIn_r _ [260, 232, 69, 158, 159, 160, 5, 161, 91, 162, 92, 93, 94, 95, 70, 72, 73, 74, 100, 101, 102, 103, 30, 75, 76, 77, 163, 164, 165, 166, 216, 217, 218, 219, 220, 221, 222, 71, 604, 605, 606, 607, 608, 609, 610, 611, 612, 613, 614, 615] (by decide +kernel) (by decide +kernel)
set_option maxRecDepth 20000 in
theorem gL_law_X7_mergeField : GoodIn wsL_law (wsV RL 55 RX7 yX7_mergeField wsX7_mergeField) := goodIn_app (goodIn_of _ (by decide +kernel)) ggL_law_X7_mergeField
set_option maxRecDepth 20000 in
theorem ggL_law_X6_activate : GoodIn wsL_law wsX6_activate := goodIn_r _ [264, 82, 148, 83, 84, 85, 2, 86, 46, 13, 265, 266, 267, 49, 268, 128, 129, 130, 131, 132, 133, 618, 619, 620, 621, 622, 599, 600, 601, 602, 603] (by decide +kernel) (by decide +kernel)
set_option maxRecDepth 20000 in
theorem gL_law_X6_activate : GoodIn wsL_law (wsV RL 56 RX6 yX6_activate wsX6_activate) := goodIn_app (goodIn_of _ (by decide +kernel)) ggL_law_X6_activate
set_option maxRecDepth 20000 in
theorem ggL_law_X7_activate : GoodIn wsL_law wsX7_activate := goodIn_r _ [272, 30, 158, 159, 160, 5, 161, 91, 162, 92, 93, 94, 95, 70, 72, 73, 74, 100, 101, 102, 103, 75, 76, 77, 96, 97, 98, 99, 604, 605, 606, 607, 608, 609, 610, 611, 612, 613, 614, 615] (by decide +kernel) (by decide +kernel)
set_option maxRecDepth 20000 in
theorem gL_law_X7_activate : GoodIn wsL_law (wsV RL 59 RX7 yX7_activate wsX7_activate) := goodIn_app (goodIn_of _ (by decide +kernel)) ggL_law_X7_activate
set_option maxRecDepth 20000 in
theorem ggL_law_X6_discard : GoodIn wsL_law wsX6_discard := goodIn_r _ [276, 82, 148, 83, 84, 85, 2, 86, 46, 13, 277, 278, 279, 49, 280, 129, 56, 128, 130, 131, 132, 133, 618, 619, 620, 621, 622, 599, 600, 601, 602, 603, 623, 624] (by decide +kernel) (by decide +kernel)
set_option maxRecDepth 20000 in
theorem gL_law_X6_discard : GoodIn wsL_law (wsV RL 60 RX6 yX6_discard wsX6_discard) := goodIn_app (goodIn_of _ (by decide +kernel)) ggL_law_X6_discard
set_option maxRecDepth 20000 in
theorem ggL_law_X7_discard : GoodIn wsL_law wsX7_discard := goodIn_r _ [284, 30, 158, 159, 160, 5, 161, 91, 162, 92, 93, 94, 95, 70, 72, 73, 74, 100, 101, 102, 103, 75, 76, 77, 604, 605, 606, 607, 608, 609, 610, 611, 612, 613, 614, 615] (by decide +kernel) (by decide +kernel)
set_option maxRecDepth 20000 in
theorem gL_law_X7_discard : GoodIn wsL_law (wsV RL 63 RX7 yX7_discard wsX7_discard) := goodIn_app (goodIn_of _ (by decide +kernel)) ggL_law_X7_discard
set_option maxRecDepth 20000 in
theorem ggL_law_X6_rollback : GoodIn wsL_law wsX6_rollback := goodIn_r _ [288, 82, 108, 289, 83, 84, 85, 2, 86, 46, 13, 290, 291, 292, 293, 15, 294, 295, 296, 17, 297, 298, 24, 299, 300, 301, 302, 303, 19, 304, 305, 306, 307, 308, 309, 310, 311, 312, 313, 49, 314, 128, 129, 618, 619, 620, 621, 622, 599, 600, 601, 602, 603, 616, 617, 628, 629, 630, 631, 632, 633, 634] (by decide +kernel) (by decide +kernel)
set_option maxRecDepth 20000 in
theorem gL_law_X6_rollback : GoodIn wsL_law (wsV RL 64 RX6 yX6_rollback wsX6_rollback) := goodIn_app (goodIn_of _ (by decide +kernel)) ggL_law_X6_rollback
set_option maxRecDepth 20000 in
theorem ggL_law_X7_rollback : GoodIn wsL_law wsX7_rollback := goodIn_r _ [318, 91, 117, 319, 320, 36, 37, 38, 39, 30, 92, 93, 94, 5, 95, 70, 72, 73, 74, 96, 97, 98, 99, 100, 101, 102, 103, 75, 76, 77, 321, 322, 323, 324, 32, 33, 325, 326, 327, 328, 31, 329, 330, 331, 332, 34, 604, 605, 606, 607, 608, 609, 610, 611, 612, 613, 614, 615] (by decide +kernel) (by decide +kernel)
set_option maxRecDepth 20000 in
theorem gL_law_X7_rollback : GoodIn wsL_law (wsV RL 67 RX7 yX7_rollback wsX7_rollback) := goodIn_app (goodIn_of _ (by decide +kernel)) ggL_law_X7_rollback
set_option maxRecDepth 20000 in
theorem ggL_law_X6_call : GoodIn wsL_law wsX6_call := goodIn_r _ [336, 337, 82, 338, 339, 340, 2, 341, 15, 83, 84, 85, 86, 46, 13, 342, 343, 344, 17, 345, 298, 346, 24, 23, 347, 348, 349, 350, 351, 352, 10, 11, 353, 354, 599, 600, 601, 602, 603, 616, 617, 628, 629, 630, 618, 619, 620, 621, 622] (by decide +kernel) (by decide +kernel)
set_option maxRecDepth 20000 in
theorem gL_law_X6_call : GoodIn wsL_law (wsV RL 68 RX6 yX6_call wsX6_call) := goodIn_app (goodIn_of _ (by decide +kernel)) ggL_law_X6_call
set_option maxRecDepth 20000 in
theorem ggL_law_X7_call : GoodIn wsL_law wsX7_call := goodIn_r _ [358, 359, 91, 31, 71, 32, 33, 34, 360, 361, 5, 362, 72, 73, 74, 92, 93, 94, 95, 70, 96, 97, 98, 99, 100, 101, 102, 103, 30, 75, 76, 77, 604, 605, 606, 607, 608, 609, 610, 611, 612, 613, 614, 615] (by decide +kernel) (by decide +kernel)
set_option maxRecDepth 20000 in
theorem gL_law_X7_call : GoodIn wsL_law (wsV RL 71 RX7 yX7_call wsX7_call) := goodIn_app (goodIn_of _ (by decide +kernel)) ggL_law_X7_call
set_option maxRecDepth 20000 in
theorem ggL_law_X6_finish : GoodIn wsL_law wsX6_finish := goodIn_r _ [366, 337, 338, 339, 340, 2, 341, 15, 367, 368, 369, 17, 370, 298, 371, 24, 599, 600, 601, 602, 603, 616, 617] (by decide +kernel) (by decide +kernel)
set_option maxRecDepth 20000 in
theorem gL_law_X6_finish : GoodIn wsL_law (wsV RL 72 RX6 yX6_finish wsX6_finish) := goodIn_app (goodIn_of _ (by decide +kernel)) ggL_law_X6_finish
set_option maxRecDepth 20000 in
theorem ggL_law_X7_finish : GoodIn wsL_law wsX7_finish := goodIn_r _ [375, 359, 31, 376, 360, 361, 5, 362, 72, 73, 74, 604, 605, 606, 607, 608, 609, 610, 611, 612, 613, 614, 615] (by decide +kernel) (by decide +kernel)
set_option maxRecDepth 20000 in
theorem gL_law_X7_finish : GoodIn wsL_law (wsV RL 75 RX7 yX7_finish wsX7_finish) := goodIn_app (goodIn_of _ (by decide +kernel)) ggL_law_X7_finish
set_option maxRecDepth 20000 in
theorem ggL_law_X6_depth : GoodIn wsL_law wsX6_depth := goodIn_r _ [380, 337, 338, 339, 340, 2, 341, 15, 616, 617, 599, 600, 601, 602, 603] (by decide +kernel) (by decide +kernel)
set_option maxRecDepth 20000 in
theorem gL_law_X6_depth : GoodIn wsL_law (wsV RL 76 RX6 yX6_depth wsX6_depth) := goodIn_app (goodIn_of _ (by decide +kernel)) ggL_law_X6_depth
set_option maxRecDepth 20000 in
theorem ggL_law_X7_depth : GoodIn wsL_law wsX7_depth := goodIn_r _ [384, 31, 359, 360, 361, 5, 362, 72, 73, 74, 604, 605, 606, 607, 608, 609, 610, 611, 612, 613, 614, 615] (by decide +kernel) (by decide +kernel)
set_option maxRecDepth 20000 in
theorem gL_law_X7_depth : GoodIn wsL_law (wsV RL 79 RX7 yX7_depth wsX7_depth) := goodIn_app (goodIn_of _ (by decide +kernel)) ggL_law_X7_depth
set_option maxRecDepth 20000 in
theorem ggL_law_X6_frameClass : GoodIn wsL_law wsX6_frameClass := goodIn_r _ [388, 337, 389, 338, 339, 340, 2, 341, 15, 390, 391, 392, 17, 393, 298, 24, 628, 629, 630, 618, 619, 620, 621, 622, 599, 600, 601, 602, 603, 616, 617] (by decide +kernel) (by decide +kernel)
set_option maxRecDepth 20000 in
theorem gL_law_X6_frameClass : GoodIn wsL_law (wsV RL 80 RX6 yX6_frameClass wsX6_frameClass) := goodIn_app (goodIn_of _ (by decide +kernel)) ggL_law_X6_frameClass
set_option maxRecDepth 20000 in
theorem ggL_law_X7_frameClass : GoodIn wsL_law wsX7_frameClass := goodIn_r _ [397, 359, 31, 32, 376, 360, 361, 5, 362, 72, 73, 74, 604, 605, 606, 607, 608, 609, 610, 611, 612, 613, 614, 615] (by decide +kernel) (by decide +kernel)
set_option maxRecDepth 20000 in
theorem gL_law_X7_frameClass : GoodIn wsL_law (wsV RL 83 RX7 yX7_frameClass wsX7_frameClass) := goodIn_app (goodIn_of _ (by decide +kernel)) ggL_law_X7_frameClass
set_option maxRecDepth 20000 in
theorem ggL_law_X6_frameVersion : GoodIn wsL_law wsX6_frameVersion := goodIn_r _ [401, 337, 389, 338, 339, 340, 2, 341, 15, 390, 391, 392, 17, 393, 298, 24, 628, 629, 630, 599, 600, 601, 602, 603, 616, 617] (by decide +kernel) (by decide +kernel)
set_option maxRecDepth 20000 in
theorem gL_law_X6_frameVersion : GoodIn wsL_law (wsV RL 84 RX6 yX6_frameVersion wsX6_frameVersion) := goodIn_app (goodIn_of _ (by decide +kernel)) ggL_law_X6_frameVersion
set_option maxRecDepth 20000 in
theorem ggL_law_X7_frameVersion : GoodIn wsL_law wsX7_frameVersion := goodIn_r _ [405, 359, 31, 33, 376, 360, 361, 5, 362, 72, 73, 74, 604, 605, 606, 607, 608, 609, 610, 611, 612, 613, 614, 615] (by decide +kernel) (by decide +kernel)
set_option maxRecDepth 20000 in
theorem gL_law_X7_frameVersion : GoodIn wsL_law (wsV RL 87 RX7 yX7_frameVersion wsX7_frameVersion) := goodIn_app (goodIn_of _ (by decide +kernel)) ggL_law_X7_frameVersion
set_option maxRecDepth 20000 in
theorem ggL_law_X6_oldFrames : GoodIn wsL_law wsX6_oldFrames := goodIn_r _ [409, 82, 83, 84, 85, 2, 86, 46, 13, 290, 291, 292, 293, 15, 294, 295, 296, 17, 297, 298, 24, 618, 619, 620, 621, 622, 599, 600, 601, 602, 603, 616, 617, 628, 629, 630] (by decide +kernel) (by decide +kernel)
set_option maxRecDepth 20000 in
theorem gL_law_X6_oldFrames : GoodIn wsL_law (wsV RL 88 RX6 yX6_oldFrames wsX6_oldFrames) := goodIn_app (goodIn_of _ (by decide +kernel)) ggL_law_X6_oldFrames
set_option maxRecDepth 20000 in
theorem ggL_law_X7_oldFrames : GoodIn wsL_law wsX7_oldFrames := goodIn_r _ [413, 91, 32, 33, 92, 93, 94, 5, 95, 70, 72, 73, 74, 325, 326, 327, 328, 31, 96, 97, 98, 99, 100, 101, 102, 103, 30, 75, 76, 77, 604, 605, 606, 607, 608, 609, 610, 611, 612, 613, 614, 615] (by decide +kernel) (by decide +kernel)
set_option maxRecDepth 20000 in
theorem gL_law_X7_oldFrames : GoodIn wsL_law (wsV RL 91 RX7 yX7_oldFrames wsX7_oldFrames) := goodIn_app (goodIn_of _ (by decide +kernel)) ggL_law_X7_oldFrames
set_option maxRecDepth 20000 in
theorem ggL_law_X6_create : GoodIn wsL_law wsX6_create := goodIn_r _ [417, 337, 389, 303, 47, 19, 18, 418, 307, 338, 339, 340, 2, 341, 15, 419, 420, 421, 17, 422, 298, 423, 391, 392, 393, 24, 424, 425, 426, 427, 10, 11, 428, 29, 429, 430, 310, 309, 431, 432, 433, 348, 434, 435, 599, 600, 601, 602, 603, 631, 632, 633, 634, 628, 629, 630, 616, 617] (by decide +kernel) (by decide +kernel)
set_option maxRecDepth 20000 in
theorem gL_law_X6_create : GoodIn wsL_law (wsV RL 92 RX6 yX6_create wsX6_create) := goodIn_app (goodIn_of _ (by decide +kernel)) ggL_law_X6_create
set_option maxRecDepth 20000 in
theorem ggL_law_X7_create : GoodIn wsL_law wsX7_create := goodIn_r _ [439, 359, 31, 376, 320, 71, 36, 37, 32, 38, 33, 39, 40, 34, 360, 361, 5, 362, 72, 73, 74, 440, 441, 442, 604, 605, 606, 607, 608, 609, 610, 611, 612, 613, 614, 615] (by decide +kernel) (by decide +kernel)
set_option maxRecDepth 20000 in
theorem gL_law_X7_create : GoodIn wsL_law (wsV RL 95 RX7 yX7_create wsX7_create) := goodIn_app (goodIn_of _ (by decide +kernel)) ggL_law_X7_create
set_option maxRecDepth 20000 in
theorem ggL_law_X6_read : GoodIn wsL_law wsX6_read := goodIn_r _ [446, 447, 448, 449, 2, 450, 337, 389, 451, 452, 227, 453, 454, 455, 338, 339, 340, 341, 15, 419, 420, 421, 17, 422, 298, 423, 391, 392, 393, 24, 456, 457, 458, 459, 303, 19, 109, 110, 111, 49, 112, 54, 179, 180, 181, 171, 172, 173, 460, 461, 462, 463, 464, 465, 466, 467, 468, 469, 470, 471, 472, 473, 474, 475, 348, 476, 435, 477, 478, 479, 307, 480, 309, 429, 481, 482, 483, 484, 430, 485, 486, 487, 59, 488, 138, 64, 489, 490, 491, 188, 492, 197, 198, 199, 493, 494, 495, 175, 176, 177, 178, 431, 432, 433, 434, 496, 497, 498, 499, 631, 632, 633, 634, 618, 619, 620, 621, 622, 628, 629, 630, 599, 600, 601, 602, 603, 616, 617, 623, 624, 625, 626, 627] (by decide +kernel) (by decide +kernel)
set_option maxRecDepth 20000 in
theorem gL_law_X6_read : GoodIn wsL_law (wsV RL 96 RX6 yX6_read wsX6_read) := goodIn_app (goodIn_of _ (by decide +kernel)) ggL_law_X6_read
set_option maxRecDepth 20000 in
theorem ggL_law_X7_read : GoodIn wsL_law wsX7_read := goodIn_r _ [503, 40, 38, 504, 505, 506, 5, 507, 359, 31, 376, 508, 33, 32, 37, 509, 232, 510, 511, 512, 34, 360, 361, 362, 72, 73, 74, 513, 514, 515, 516, 320, 36, 100, 101, 102, 103, 30, 75, 76, 77, 216, 217, 218, 517, 518, 519, 520, 325, 326, 327, 328, 521, 522, 523, 524, 525, 526, 527, 528, 529, 530, 531, 532, 214, 215, 440, 441, 442, 604, 605, 606, 607, 608, 609, 610, 611, 612, 613, 614, 615] (by decide +kernel) (by decide +kernel)
set_option maxRecDepth 20000 in
theorem gL_law_X7_read : GoodIn wsL_law (wsV RL 99 RX7 yX7_read wsX7_read) := goodIn_app (goodIn_of _ (by decide +kernel)) ggL_law_X7_read
set_option maxRecDepth 20000 in
theorem ggL_law_X6_write : GoodIn wsL_law wsX6_write := goodIn_r _ [536, 45, 174, 175, 2, 176, 177, 178, 447, 448, 449, 450, 337, 389, 451, 452, 227, 453, 454, 455, 338, 339, 340, 341, 15, 419, 420, 421, 17, 422, 298, 423, 391, 392, 393, 24, 456, 457, 458, 459, 303, 19, 109, 110, 111, 49, 112, 54, 179, 180, 181, 171, 172, 173, 460, 461, 462, 463, 464, 465, 466, 467, 468, 469, 470, 471, 472, 473, 474, 475, 348, 476, 435, 477, 478, 479, 307, 480, 309, 429, 481, 482, 483, 484, 430, 485, 486, 487, 59, 488, 138, 64, 489, 490, 491, 188, 492, 197, 198, 199, 493, 494, 495, 431, 432, 433, 434, 496, 497, 498, 499, 537, 538, 539, 540, 631, 632, 633, 634, 618, 619, 620, 621, 622, 628, 629, 630, 599, 600, 601, 602, 603, 616, 617, 623, 624, 625, 626, 627] (by decide +kernel) (by decide +kernel)
set_option maxRecDepth 20000 in
theorem gL_law_X6_write : GoodIn wsL_law (wsV RL 100 RX6 yX6_write wsX6_write) := goodIn_app (goodIn_of _ (by decide +kernel)) ggL_law_X6_write
set_option maxRecDepth 20000 in
theorem ggL_law_X7_write : GoodIn wsL_law wsX7_write := goodIn_r _ [544, 214, 215, 69, 38, 40, 72, 73, 5, 74, 504, 505, 506, 507, 359, 31, 376, 508, 33, 32, 37, 509, 232, 510, 511, 512, 34, 360, 361, 362, 513, 514, 515, 516, 320, 36, 100, 101, 102, 103, 30, 75, 76, 77, 216, 217, 218, 517, 518, 519, 520, 325, 326, 327, 328, 521, 522, 523, 524, 525, 526, 527, 528, 529, 530, 531, 532, 440, 441, 442, 604, 605, 606, 607, 608, 609, 610, 611, 612, 613, 614, 615] (by decide +kernel) (by decide +kernel)
set_option maxRecDepth 20000 in
theorem gL_law_X7_write : GoodIn wsL_law (wsV RL 104 RX7 yX7_write wsX7_write) := goodIn_app (goodIn_of _ (by decide +kernel)) ggL_law_X7_write
set_option maxRecDepth 20000 in
theorem ggL_law_X6_peek : GoodIn wsL_law wsX6_peek := goodIn_r _ [548, 451, 227, 456, 457, 458, 2, 459, 303, 19, 109, 110, 111, 49, 112, 54, 179, 180, 181, 171, 172, 173, 496, 497, 498, 307, 499, 429, 309, 631, 632, 633, 634, 599, 600, 601, 602, 603, 618, 619, 620, 621, 622] (by decide +kernel) (by decide +kernel)
set_option maxRecDepth 20000 in
theorem gL_law_X6_peek : GoodIn wsL_law (wsV RL 105 RX6 yX6_peek wsX6_peek) := goodIn_app (goodIn_of _ (by decide +kernel)) ggL_law_X6_peek
set_option maxRecDepth 20000 in
theorem ggL_law_X7_peek : GoodIn wsL_law wsX7_peek := goodIn_r _ [552, 508, 38, 37, 40, 232, 513, 514, 515, 5, 516, 320, 36, 72, 73, 74, 100, 101, 102, 103, 30, 75, 76, 77, 216, 217, 218, 440, 441, 442, 604, 605, 606, 607, 608, 609, 610, 611, 612, 613, 614, 615] (by decide +kernel) (by decide +kernel)
set_option maxRecDepth 20000 in
theorem gL_law_X7_peek : GoodIn wsL_law (wsV RL 108 RX7 yX7_peek wsX7_peek) := goodIn_app (goodIn_of _ (by decide +kernel)) ggL_law_X7_peek
set_option maxRecDepth 20000 in
theorem ggL_law_X6_objectVersion : GoodIn wsL_law wsX6_objectVersion := goodIn_r _ [556, 451, 456, 457, 458, 2, 459, 303, 19, 631, 632, 633, 634, 599, 600, 601, 602, 603] (by decide +kernel) (by decide +kernel)
set_option maxRecDepth 20000 in
theorem gL_law_X6_objectVersion : GoodIn wsL_law (wsV RL 109 RX6 yX6_objectVersion wsX6_objectVersion) := goodIn_app (goodIn_of _ (by decide +kernel)) ggL_law_X6_objectVersion
set_option maxRecDepth 20000 in
theorem ggL_law_X7_objectVersion : GoodIn wsL_law wsX7_objectVersion := goodIn_r _ [560, 38, 508, 513, 514, 515, 5, 516, 320, 36, 72, 73, 74, 604, 605, 606, 607, 608, 609, 610, 611, 612, 613, 614, 615] (by decide +kernel) (by decide +kernel)
set_option maxRecDepth 20000 in
theorem gL_law_X7_objectVersion : GoodIn wsL_law (wsV RL 112 RX7 yX7_objectVersion wsX7_objectVersion) := goodIn_app (goodIn_of _ (by decide +kernel)) ggL_law_X7_objectVersion
set_option maxRecDepth 20000 in
theorem ggL_law_X6_conversions : GoodIn wsL_law wsX6_conversions := goodIn_r _ [564, 451, 456, 457, 458, 2, 459, 303, 19, 631, 632, 633, 634, 599, 600, 601, 602, 603] (by decide +kernel) (by decide +kernel)
set_option maxRecDepth 20000 in
theorem gL_law_X6_conversions : GoodIn wsL_law (wsV RL 113 RX6 yX6_conversions wsX6_conversions) := goodIn_app (goodIn_of _ (by decide +kernel)) ggL_law_X6_conversions
set_option maxRecDepth 20000 in
theorem ggL_law_X7_conversions : GoodIn wsL_law wsX7_conversions := goodIn_r _ [568, 38, 39, 508, 513, 514, 515, 5, 516, 320, 36, 72, 73, 74, 604, 605, 606, 607, 608, 609, 610, 611, 612, 613, 614, 615] (by decide +kernel) (by decide +kernel)
set_option maxRecDepth 20000 in
theorem gL_law_X7_conversions : GoodIn wsL_law (wsV RL 116 RX7 yX7_conversions wsX7_conversions) := goodIn_app (goodIn_of _ (by decide +kernel)) ggL_law_X7_conversions
set_option maxRecDepth 20000 in
theorem ggL_law_X6_pinnedBy : GoodIn wsL_law wsX6_pinnedBy := goodIn_r _ [572, 451, 573, 456, 457, 458, 2, 459, 303, 19, 460, 461, 462, 463, 15, 464, 465, 466, 467, 468, 469, 470, 17, 471, 298, 24, 472, 473, 474, 475, 348, 476, 435, 599, 600, 601, 602, 603, 616, 617, 628, 629, 630] (by decide +kernel) (by decide +kernel)
set_option maxRecDepth 20000 in
theorem gL_law_X6_pinnedBy : GoodIn wsL_law (wsV RL 117 RX6 yX6_pinnedBy wsX6_pinnedBy) := goodIn_app (goodIn_of _ (by decide +kernel)) ggL_law_X6_pinnedBy
set_option maxRecDepth 20000 in
theorem ggL_law_X7_pinnedBy : GoodIn wsL_law wsX7_pinnedBy := goodIn_r _ [577, 508, 578, 34, 33, 513, 514, 515, 5, 516, 320, 36, 72, 73, 74, 325, 326, 327, 328, 31, 604, 605, 606, 607, 608, 609, 610, 611, 612, 613, 614, 615] (by decide +kernel) (by decide +kernel)
set_option maxRecDepth 20000 in
theorem gL_law_X7_pinnedBy : GoodIn wsL_law (wsV RL 120 RX7 yX7_pinnedBy wsX7_pinnedBy) := goodIn_app (goodIn_of _ (by decide +kernel)) ggL_law_X7_pinnedBy
set_option maxRecDepth 20000 in
theorem ggL_law_X6_outdated : GoodIn wsL_law wsX6_outdated := goodIn_r _ [582, 82, 303, 83, 84, 85, 2, 86, 46, 13, 583, 584, 585, 586, 456, 457, 458, 459, 19, 599, 600, 601, 602, 603, 631, 632, 633, 634, 618, 619, 620, 621, 622] (by decide +kernel) (by decide +kernel)
set_option maxRecDepth 20000 in
theorem gL_law_X6_outdated : GoodIn wsL_law (wsV RL 121 RX6 yX6_outdated wsX6_outdated) := goodIn_app (goodIn_of _ (by decide +kernel)) ggL_law_X6_outdated
set_option maxRecDepth 20000 in
theorem ggL_law_X7_outdated : GoodIn wsL_law wsX7_outdated := goodIn_r _ [590, 91, 320, 36, 37, 38, 92, 93, 94, 5, 95, 70, 72, 73, 74, 96, 97, 98, 99, 100, 101, 102, 103, 30, 75, 76, 77, 604, 605, 606, 607, 608, 609, 610, 611, 612, 613, 614, 615] (by decide +kernel) (by decide +kernel)
set_option maxRecDepth 20000 in
theorem gL_law_X7_outdated : GoodIn wsL_law (wsV RL 124 RX7 yX7_outdated wsX7_outdated) := goodIn_app (goodIn_of _ (by decide +kernel)) ggL_law_X7_outdated
set_option maxRecDepth 20000 in
theorem ggL_law_X6_convertAll : GoodIn wsL_law wsX6_convertAll := goodIn_r _ [594, 82, 303, 83, 84, 85, 2, 86, 46, 13, 583, 584, 585, 586, 456, 457, 458, 459, 19, 460, 461, 462, 463, 15, 464, 465, 466, 467, 468, 469, 470, 17, 471, 298, 24, 472, 473, 474, 475, 348, 476, 435, 477, 478, 479, 307, 480, 309, 429, 481, 482, 483, 484, 430, 485, 486, 487, 59, 488, 138, 64, 489, 490, 491, 188, 492, 197, 198, 199, 493, 494, 495, 172, 173, 175, 176, 177, 178, 599, 600, 601, 602, 603, 618, 619, 620, 621, 622, 631, 632, 633, 634, 616, 617, 628, 629, 630, 623, 624, 625, 626, 627] (by decide +kernel) (by decide +kernel)
set_option maxRecDepth 20000 in
theorem gL_law_X6_convertAll : GoodIn wsL_law (wsV RL 125 RX6 yX6_convertAll wsX6_convertAll) := goodIn_app (goodIn_of _ (by decide +kernel)) ggL_law_X6_convertAll
set_option maxRecDepth 20000 in
theorem ggL_law_X7_convertAll : GoodIn wsL_law wsX7_convertAll := goodIn_r _ [598, 91, 320, 36, 37, 38, 92, 93, 94, 5, 95, 70, 72, 73, 74, 96, 97, 98, 99, 100, 101, 102, 103, 30, 75, 76, 77, 517, 518, 519, 520, 34, 33, 325, 326, 327, 328, 31, 521, 522, 523, 524, 525, 526, 527, 528, 40, 529, 530, 531, 532, 214, 215, 440, 441, 442, 604, 605, 606, 607, 608, 609, 610, 611, 612, 613, 614, 615] (by decide +kernel) (by decide +kernel)
set_option maxRecDepth 20000 in
theorem gL_law_X7_convertAll : GoodIn wsL_law (wsV RL 128 RX7 yX7_convertAll wsX7_convertAll) := goodIn_app (goodIn_of _ (by decide +kernel)) ggL_law_X7_convertAll
theorem dL_law_0 : decode cL_law 0 = .ok (.new 7, 3) := by decide +kernel
theorem dL_law_3 : decode cL_law 3 = .ok (.dup, 1) := by decide +kernel
theorem dL_law_4 : decode cL_law 4 = .ok (.invokespecial 9, 3) := by decide +kernel
theorem dL_law_7 : decode cL_law 7 = .ok (.astore_n 1, 1) := by decide +kernel
theorem dL_law_8 : decode cL_law 8 = .ok (.new 10, 3) := by decide +kernel
theorem dL_law_11 : decode cL_law 11 = .ok (.dup, 1) := by decide +kernel
theorem dL_law_12 : decode cL_law 12 = .ok (.invokespecial 12, 3) := by decide +kernel
theorem dL_law_15 : decode cL_law 15 = .ok (.astore_n 2, 1) := by decide +kernel
theorem dL_law_16 : decode cL_law 16 = .ok (.iconst 0, 1) := by decide +kernel
theorem dL_law_17 : decode cL_law 17 = .ok (.istore_n 3, 1) := by decide +kernel
theorem dL_law_18 : decode cL_law 18 = .ok (.iload_n 3, 1) := by decide +kernel
theorem dL_law_19 : decode cL_law 19 = .ok (.aload_n 0, 1) := by decide +kernel
theorem dL_law_20 : decode cL_law 20 = .ok (.arraylength, 1) := by decide +kernel
theorem dL_law_21 : decode cL_law 21 = .ok (.iconst 5, 1) := by decide +kernel
theorem dL_law_22 : decode cL_law 22 = .ok (.isub, 1) := by decide +kernel
theorem dL_law_23 : decode cL_law 23 = .ok (.if_icmp .gt 977, 3) := by decide +kernel
theorem dL_law_26 : decode cL_law 26 = .ok (.aload_n 0, 1) := by decide +kernel
theorem dL_law_27 : decode cL_law 27 = .ok (.iload_n 3, 1) := by decide +kernel
theorem dL_law_28 : decode cL_law 28 = .ok (.iaload, 1) := by decide +kernel
theorem dL_law_29 : decode cL_law 29 = .ok (.bipush 31, 2) := by decide +kernel
theorem dL_law_31 : decode cL_law 31 = .ok (.iand, 1) := by decide +kernel
theorem dL_law_32 : decode cL_law 32 = .ok (.tableswitch 962 0 27 #[128, 151, 174, 207, 230, 253, 296, 329, 372, 415, 458, 481, 504, 527, 560, 583, 606, 639, 672, 695, 718, 761, 814, 847, 870, 893, 916, 939], 128) := by decide +kernel
theorem dL_law_160 : decode cL_law 160 = .ok (.aload_n 1, 1) := by decide +kernel
theorem dL_law_161 : decode cL_law 161 = .ok (.aload_n 0, 1) := by decide +kernel
theorem dL_law_162 : decode cL_law 162 = .ok (.iload_n 3, 1) := by decide +kernel
theorem dL_law_163 : decode cL_law 163 = .ok (.iconst 1, 1) := by decide +kernel
theorem dL_law_164 : decode cL_law 164 = .ok (.iadd, 1) := by decide +kernel
theorem dL_law_165 : decode cL_law 165 = .ok (.iaload, 1) := by decide +kernel
theorem dL_law_166 : decode cL_law 166 = .ok (.invokevirtual 13, 3) := by decide +kernel
theorem dL_law_169 : decode cL_law 169 = .ok (.aload_n 2, 1) := by decide +kernel
theorem dL_law_170 : decode cL_law 170 = .ok (.aload_n 0, 1) := by decide +kernel
theorem dL_law_171 : decode cL_law 171 = .ok (.iload_n 3, 1) := by decide +kernel
theorem dL_law_172 : decode cL_law 172 = .ok (.iconst 1, 1) := by decide +kernel
theorem dL_law_173 : decode cL_law 173 = .ok (.iadd, 1) := by decide +kernel
theorem dL_law_174 : decode cL_law 174 = .ok (.iaload, 1) := by decide +kernel
theorem dL_law_175 : decode cL_law 175 = .ok (.invokevirtual 17, 3) := by decide +kernel
theorem dL_law_178 : decode cL_law 178 = .ok (.if_icmp .eq 816, 3) := by decide +kernel
theorem dL_law_181 : decode cL_law 181 = .ok (.iconst 0, 1) := by decide +kernel
theorem dL_law_182 : decode cL_law 182 = .ok (.ireturn, 1) := by decide +kernel
theorem dL_law_183 : decode cL_law 183 = .ok (.aload_n 1, 1) := by decide +kernel
theorem dL_law_184 : decode cL_law 184 = .ok (.aload_n 0, 1) := by decide +kernel
theorem dL_law_185 : decode cL_law 185 = .ok (.iload_n 3, 1) := by decide +kernel
theorem dL_law_186 : decode cL_law 186 = .ok (.iconst 1, 1) := by decide +kernel
theorem dL_law_187 : decode cL_law 187 = .ok (.iadd, 1) := by decide +kernel
theorem dL_law_188 : decode cL_law 188 = .ok (.iaload, 1) := by decide +kernel
theorem dL_law_189 : decode cL_law 189 = .ok (.invokevirtual 18, 3) := by decide +kernel
theorem dL_law_192 : decode cL_law 192 = .ok (.aload_n 2, 1) := by decide +kernel
theorem dL_law_193 : decode cL_law 193 = .ok (.aload_n 0, 1) := by decide +kernel
theorem dL_law_194 : decode cL_law 194 = .ok (.iload_n 3, 1) := by decide +kernel
theorem dL_law_195 : decode cL_law 195 = .ok (.iconst 1, 1) := by decide +kernel
theorem dL_law_196 : decode cL_law 196 = .ok (.iadd, 1) := by decide +kernel
theorem dL_law_197 : decode cL_law 197 = .ok (.iaload, 1) := by decide +kernel
theorem dL_law_198 : decode cL_law 198 = .ok (.invokevirtual 21, 3) := by decide +kernel
theorem dL_law_201 : decode cL_law 201 = .ok (.if_icmp .eq 793, 3) := by decide +kernel
theorem dL_law_204 : decode cL_law 204 = .ok (.iconst 0, 1) := by decide +kernel
theorem dL_law_205 : decode cL_law 205 = .ok (.ireturn, 1) := by decide +kernel
theorem dL_law_206 : decode cL_law 206 = .ok (.aload_n 1, 1) := by decide +kernel
theorem dL_law_207 : decode cL_law 207 = .ok (.aload_n 0, 1) := by decide +kernel
theorem dL_law_208 : decode cL_law 208 = .ok (.iload_n 3, 1) := by decide +kernel
theorem dL_law_209 : decode cL_law 209 = .ok (.iconst 1, 1) := by decide +kernel
theorem dL_law_210 : decode cL_law 210 = .ok (.iadd, 1) := by decide +kernel
theorem dL_law_211 : decode cL_law 211 = .ok (.iaload, 1) := by decide +kernel
theorem dL_law_212 : decode cL_law 212 = .ok (.aload_n 0, 1) := by decide +kernel
theorem dL_law_213 : decode cL_law 213 = .ok (.iload_n 3, 1) := by decide +kernel
theorem dL_law_214 : decode cL_law 214 = .ok (.iconst 2, 1) := by decide +kernel
theorem dL_law_215 : decode cL_law 215 = .ok (.iadd, 1) := by decide +kernel
theorem dL_law_216 : decode cL_law 216 = .ok (.iaload, 1) := by decide +kernel
theorem dL_law_217 : decode cL_law 217 = .ok (.invokevirtual 22, 3) := by decide +kernel
theorem dL_law_220 : decode cL_law 220 = .ok (.aload_n 2, 1) := by decide +kernel
theorem dL_law_221 : decode cL_law 221 = .ok (.aload_n 0, 1) := by decide +kernel
theorem dL_law_222 : decode cL_law 222 = .ok (.iload_n 3, 1) := by decide +kernel
theorem dL_law_223 : decode cL_law 223 = .ok (.iconst 1, 1) := by decide +kernel
theorem dL_law_224 : decode cL_law 224 = .ok (.iadd, 1) := by decide +kernel
theorem dL_law_225 : decode cL_law 225 = .ok (.iaload, 1) := by decide +kernel
theorem dL_law_226 : decode cL_law 226 = .ok (.aload_n 0, 1) := by decide +kernel
theorem dL_law_227 : decode cL_law 227 = .ok (.iload_n 3, 1) := by decide +kernel
theorem dL_law_228 : decode cL_law 228 = .ok (.iconst 2, 1) := by decide +kernel
theorem dL_law_229 : decode cL_law 229 = .ok (.iadd, 1) := by decide +kernel
theorem dL_law_230 : decode cL_law 230 = .ok (.iaload, 1) := by decide +kernel
theorem dL_law_231 : decode cL_law 231 = .ok (.invokevirtual 26, 3) := by decide +kernel
theorem dL_law_234 : decode cL_law 234 = .ok (.if_icmp .eq 760, 3) := by decide +kernel
theorem dL_law_237 : decode cL_law 237 = .ok (.iconst 0, 1) := by decide +kernel
theorem dL_law_238 : decode cL_law 238 = .ok (.ireturn, 1) := by decide +kernel
theorem dL_law_239 : decode cL_law 239 = .ok (.aload_n 1, 1) := by decide +kernel
theorem dL_law_240 : decode cL_law 240 = .ok (.aload_n 0, 1) := by decide +kernel
theorem dL_law_241 : decode cL_law 241 = .ok (.iload_n 3, 1) := by decide +kernel
theorem dL_law_242 : decode cL_law 242 = .ok (.iconst 1, 1) := by decide +kernel
theorem dL_law_243 : decode cL_law 243 = .ok (.iadd, 1) := by decide +kernel
theorem dL_law_244 : decode cL_law 244 = .ok (.iaload, 1) := by decide +kernel
theorem dL_law_245 : decode cL_law 245 = .ok (.invokevirtual 27, 3) := by decide +kernel
theorem dL_law_248 : decode cL_law 248 = .ok (.aload_n 2, 1) := by decide +kernel
theorem dL_law_249 : decode cL_law 249 = .ok (.aload_n 0, 1) := by decide +kernel
theorem dL_law_250 : decode cL_law 250 = .ok (.iload_n 3, 1) := by decide +kernel
theorem dL_law_251 : decode cL_law 251 = .ok (.iconst 1, 1) := by decide +kernel
theorem dL_law_252 : decode cL_law 252 = .ok (.iadd, 1) := by decide +kernel
theorem dL_law_253 : decode cL_law 253 = .ok (.iaload, 1) := by decide +kernel
theorem dL_law_254 : decode cL_law 254 = .ok (.invokevirtual 30, 3) := by decide +kernel
theorem dL_law_257 : decode cL_law 257 = .ok (.if_icmp .eq 737, 3) := by decide +kernel
theorem dL_law_260 : decode cL_law 260 = .ok (.iconst 0, 1) := by decide +kernel
theorem dL_law_261 : decode cL_law 261 = .ok (.ireturn, 1) := by decide +kernel
theorem dL_law_262 : decode cL_law 262 = .ok (.aload_n 1, 1) := by decide +kernel
theorem dL_law_263 : decode cL_law 263 = .ok (.aload_n 0, 1) := by decide +kernel
theorem dL_law_264 : decode cL_law 264 = .ok (.iload_n 3, 1) := by decide +kernel
theorem dL_law_265 : decode cL_law 265 = .ok (.iconst 1, 1) := by decide +kernel
theorem dL_law_266 : decode cL_law 266 = .ok (.iadd, 1) := by decide +kernel
theorem dL_law_267 : decode cL_law 267 = .ok (.iaload, 1) := by decide +kernel
theorem dL_law_268 : decode cL_law 268 = .ok (.invokevirtual 31, 3) := by decide +kernel
theorem dL_law_271 : decode cL_law 271 = .ok (.aload_n 2, 1) := by decide +kernel
theorem dL_law_272 : decode cL_law 272 = .ok (.aload_n 0, 1) := by decide +kernel
theorem dL_law_273 : decode cL_law 273 = .ok (.iload_n 3, 1) := by decide +kernel
theorem dL_law_274 : decode cL_law 274 = .ok (.iconst 1, 1) := by decide +kernel
theorem dL_law_275 : decode cL_law 275 = .ok (.iadd, 1) := by decide +kernel
theorem dL_law_276 : decode cL_law 276 = .ok (.iaload, 1) := by decide +kernel
theorem dL_law_277 : decode cL_law 277 = .ok (.invokevirtual 34, 3) := by decide +kernel
theorem dL_law_280 : decode cL_law 280 = .ok (.if_icmp .eq 714, 3) := by decide +kernel
theorem dL_law_283 : decode cL_law 283 = .ok (.iconst 0, 1) := by decide +kernel
theorem dL_law_284 : decode cL_law 284 = .ok (.ireturn, 1) := by decide +kernel
theorem dL_law_285 : decode cL_law 285 = .ok (.aload_n 1, 1) := by decide +kernel
theorem dL_law_286 : decode cL_law 286 = .ok (.aload_n 0, 1) := by decide +kernel
theorem dL_law_287 : decode cL_law 287 = .ok (.iload_n 3, 1) := by decide +kernel
theorem dL_law_288 : decode cL_law 288 = .ok (.iconst 1, 1) := by decide +kernel
theorem dL_law_289 : decode cL_law 289 = .ok (.iadd, 1) := by decide +kernel
theorem dL_law_290 : decode cL_law 290 = .ok (.iaload, 1) := by decide +kernel
theorem dL_law_291 : decode cL_law 291 = .ok (.aload_n 0, 1) := by decide +kernel
theorem dL_law_292 : decode cL_law 292 = .ok (.iload_n 3, 1) := by decide +kernel
theorem dL_law_293 : decode cL_law 293 = .ok (.iconst 2, 1) := by decide +kernel
theorem dL_law_294 : decode cL_law 294 = .ok (.iadd, 1) := by decide +kernel
theorem dL_law_295 : decode cL_law 295 = .ok (.iaload, 1) := by decide +kernel
theorem dL_law_296 : decode cL_law 296 = .ok (.aload_n 0, 1) := by decide +kernel
theorem dL_law_297 : decode cL_law 297 = .ok (.iload_n 3, 1) := by decide +kernel
theorem dL_law_298 : decode cL_law 298 = .ok (.iconst 3, 1) := by decide +kernel
theorem dL_law_299 : decode cL_law 299 = .ok (.iadd, 1) := by decide +kernel
theorem dL_law_300 : decode cL_law 300 = .ok (.iaload, 1) := by decide +kernel
theorem dL_law_301 : decode cL_law 301 = .ok (.invokevirtual 35, 3) := by decide +kernel
theorem dL_law_304 : decode cL_law 304 = .ok (.aload_n 2, 1) := by decide +kernel
theorem dL_law_305 : decode cL_law 305 = .ok (.aload_n 0, 1) := by decide +kernel
theorem dL_law_306 : decode cL_law 306 = .ok (.iload_n 3, 1) := by decide +kernel
theorem dL_law_307 : decode cL_law 307 = .ok (.iconst 1, 1) := by decide +kernel
theorem dL_law_308 : decode cL_law 308 = .ok (.iadd, 1) := by decide +kernel
theorem dL_law_309 : decode cL_law 309 = .ok (.iaload, 1) := by decide +kernel
theorem dL_law_310 : decode cL_law 310 = .ok (.aload_n 0, 1) := by decide +kernel
theorem dL_law_311 : decode cL_law 311 = .ok (.iload_n 3, 1) := by decide +kernel
theorem dL_law_312 : decode cL_law 312 = .ok (.iconst 2, 1) := by decide +kernel
theorem dL_law_313 : decode cL_law 313 = .ok (.iadd, 1) := by decide +kernel
theorem dL_law_314 : decode cL_law 314 = .ok (.iaload, 1) := by decide +kernel
theorem dL_law_315 : decode cL_law 315 = .ok (.aload_n 0, 1) := by decide +kernel
theorem dL_law_316 : decode cL_law 316 = .ok (.iload_n 3, 1) := by decide +kernel
theorem dL_law_317 : decode cL_law 317 = .ok (.iconst 3, 1) := by decide +kernel
theorem dL_law_318 : decode cL_law 318 = .ok (.iadd, 1) := by decide +kernel
theorem dL_law_319 : decode cL_law 319 = .ok (.iaload, 1) := by decide +kernel
theorem dL_law_320 : decode cL_law 320 = .ok (.invokevirtual 39, 3) := by decide +kernel
theorem dL_law_323 : decode cL_law 323 = .ok (.if_icmp .eq 671, 3) := by decide +kernel
theorem dL_law_326 : decode cL_law 326 = .ok (.iconst 0, 1) := by decide +kernel
theorem dL_law_327 : decode cL_law 327 = .ok (.ireturn, 1) := by decide +kernel
theorem dL_law_328 : decode cL_law 328 = .ok (.aload_n 1, 1) := by decide +kernel
theorem dL_law_329 : decode cL_law 329 = .ok (.aload_n 0, 1) := by decide +kernel
theorem dL_law_330 : decode cL_law 330 = .ok (.iload_n 3, 1) := by decide +kernel
theorem dL_law_331 : decode cL_law 331 = .ok (.iconst 1, 1) := by decide +kernel
theorem dL_law_332 : decode cL_law 332 = .ok (.iadd, 1) := by decide +kernel
theorem dL_law_333 : decode cL_law 333 = .ok (.iaload, 1) := by decide +kernel
theorem dL_law_334 : decode cL_law 334 = .ok (.aload_n 0, 1) := by decide +kernel
theorem dL_law_335 : decode cL_law 335 = .ok (.iload_n 3, 1) := by decide +kernel
theorem dL_law_336 : decode cL_law 336 = .ok (.iconst 2, 1) := by decide +kernel
theorem dL_law_337 : decode cL_law 337 = .ok (.iadd, 1) := by decide +kernel
theorem dL_law_338 : decode cL_law 338 = .ok (.iaload, 1) := by decide +kernel
theorem dL_law_339 : decode cL_law 339 = .ok (.invokevirtual 40, 3) := by decide +kernel
theorem dL_law_342 : decode cL_law 342 = .ok (.aload_n 2, 1) := by decide +kernel
theorem dL_law_343 : decode cL_law 343 = .ok (.aload_n 0, 1) := by decide +kernel
theorem dL_law_344 : decode cL_law 344 = .ok (.iload_n 3, 1) := by decide +kernel
theorem dL_law_345 : decode cL_law 345 = .ok (.iconst 1, 1) := by decide +kernel
theorem dL_law_346 : decode cL_law 346 = .ok (.iadd, 1) := by decide +kernel
theorem dL_law_347 : decode cL_law 347 = .ok (.iaload, 1) := by decide +kernel
theorem dL_law_348 : decode cL_law 348 = .ok (.aload_n 0, 1) := by decide +kernel
theorem dL_law_349 : decode cL_law 349 = .ok (.iload_n 3, 1) := by decide +kernel
theorem dL_law_350 : decode cL_law 350 = .ok (.iconst 2, 1) := by decide +kernel
theorem dL_law_351 : decode cL_law 351 = .ok (.iadd, 1) := by decide +kernel
theorem dL_law_352 : decode cL_law 352 = .ok (.iaload, 1) := by decide +kernel
theorem dL_law_353 : decode cL_law 353 = .ok (.invokevirtual 43, 3) := by decide +kernel
theorem dL_law_356 : decode cL_law 356 = .ok (.if_icmp .eq 638, 3) := by decide +kernel
theorem dL_law_359 : decode cL_law 359 = .ok (.iconst 0, 1) := by decide +kernel
theorem dL_law_360 : decode cL_law 360 = .ok (.ireturn, 1) := by decide +kernel
theorem dL_law_361 : decode cL_law 361 = .ok (.aload_n 1, 1) := by decide +kernel
theorem dL_law_362 : decode cL_law 362 = .ok (.aload_n 0, 1) := by decide +kernel
theorem dL_law_363 : decode cL_law 363 = .ok (.iload_n 3, 1) := by decide +kernel
theorem dL_law_364 : decode cL_law 364 = .ok (.iconst 1, 1) := by decide +kernel
theorem dL_law_365 : decode cL_law 365 = .ok (.iadd, 1) := by decide +kernel
theorem dL_law_366 : decode cL_law 366 = .ok (.iaload, 1) := by decide +kernel
theorem dL_law_367 : decode cL_law 367 = .ok (.aload_n 0, 1) := by decide +kernel
theorem dL_law_368 : decode cL_law 368 = .ok (.iload_n 3, 1) := by decide +kernel
theorem dL_law_369 : decode cL_law 369 = .ok (.iconst 2, 1) := by decide +kernel
theorem dL_law_370 : decode cL_law 370 = .ok (.iadd, 1) := by decide +kernel
theorem dL_law_371 : decode cL_law 371 = .ok (.iaload, 1) := by decide +kernel
theorem dL_law_372 : decode cL_law 372 = .ok (.aload_n 0, 1) := by decide +kernel
theorem dL_law_373 : decode cL_law 373 = .ok (.iload_n 3, 1) := by decide +kernel
theorem dL_law_374 : decode cL_law 374 = .ok (.iconst 3, 1) := by decide +kernel
theorem dL_law_375 : decode cL_law 375 = .ok (.iadd, 1) := by decide +kernel
theorem dL_law_376 : decode cL_law 376 = .ok (.iaload, 1) := by decide +kernel
theorem dL_law_377 : decode cL_law 377 = .ok (.invokevirtual 44, 3) := by decide +kernel
theorem dL_law_380 : decode cL_law 380 = .ok (.aload_n 2, 1) := by decide +kernel
theorem dL_law_381 : decode cL_law 381 = .ok (.aload_n 0, 1) := by decide +kernel
theorem dL_law_382 : decode cL_law 382 = .ok (.iload_n 3, 1) := by decide +kernel
theorem dL_law_383 : decode cL_law 383 = .ok (.iconst 1, 1) := by decide +kernel
theorem dL_law_384 : decode cL_law 384 = .ok (.iadd, 1) := by decide +kernel
theorem dL_law_385 : decode cL_law 385 = .ok (.iaload, 1) := by decide +kernel
theorem dL_law_386 : decode cL_law 386 = .ok (.aload_n 0, 1) := by decide +kernel
theorem dL_law_387 : decode cL_law 387 = .ok (.iload_n 3, 1) := by decide +kernel
theorem dL_law_388 : decode cL_law 388 = .ok (.iconst 2, 1) := by decide +kernel
theorem dL_law_389 : decode cL_law 389 = .ok (.iadd, 1) := by decide +kernel
theorem dL_law_390 : decode cL_law 390 = .ok (.iaload, 1) := by decide +kernel
theorem dL_law_391 : decode cL_law 391 = .ok (.aload_n 0, 1) := by decide +kernel
theorem dL_law_392 : decode cL_law 392 = .ok (.iload_n 3, 1) := by decide +kernel
theorem dL_law_393 : decode cL_law 393 = .ok (.iconst 3, 1) := by decide +kernel
theorem dL_law_394 : decode cL_law 394 = .ok (.iadd, 1) := by decide +kernel
theorem dL_law_395 : decode cL_law 395 = .ok (.iaload, 1) := by decide +kernel
theorem dL_law_396 : decode cL_law 396 = .ok (.invokevirtual 47, 3) := by decide +kernel
theorem dL_law_399 : decode cL_law 399 = .ok (.if_icmp .eq 595, 3) := by decide +kernel
theorem dL_law_402 : decode cL_law 402 = .ok (.iconst 0, 1) := by decide +kernel
theorem dL_law_403 : decode cL_law 403 = .ok (.ireturn, 1) := by decide +kernel
theorem dL_law_404 : decode cL_law 404 = .ok (.aload_n 1, 1) := by decide +kernel
theorem dL_law_405 : decode cL_law 405 = .ok (.aload_n 0, 1) := by decide +kernel
theorem dL_law_406 : decode cL_law 406 = .ok (.iload_n 3, 1) := by decide +kernel
theorem dL_law_407 : decode cL_law 407 = .ok (.iconst 1, 1) := by decide +kernel
theorem dL_law_408 : decode cL_law 408 = .ok (.iadd, 1) := by decide +kernel
theorem dL_law_409 : decode cL_law 409 = .ok (.iaload, 1) := by decide +kernel
theorem dL_law_410 : decode cL_law 410 = .ok (.aload_n 0, 1) := by decide +kernel
theorem dL_law_411 : decode cL_law 411 = .ok (.iload_n 3, 1) := by decide +kernel
theorem dL_law_412 : decode cL_law 412 = .ok (.iconst 2, 1) := by decide +kernel
theorem dL_law_413 : decode cL_law 413 = .ok (.iadd, 1) := by decide +kernel
theorem dL_law_414 : decode cL_law 414 = .ok (.iaload, 1) := by decide +kernel
theorem dL_law_415 : decode cL_law 415 = .ok (.aload_n 0, 1) := by decide +kernel
theorem dL_law_416 : decode cL_law 416 = .ok (.iload_n 3, 1) := by decide +kernel
theorem dL_law_417 : decode cL_law 417 = .ok (.iconst 3, 1) := by decide +kernel
theorem dL_law_418 : decode cL_law 418 = .ok (.iadd, 1) := by decide +kernel
theorem dL_law_419 : decode cL_law 419 = .ok (.iaload, 1) := by decide +kernel
theorem dL_law_420 : decode cL_law 420 = .ok (.invokevirtual 48, 3) := by decide +kernel
theorem dL_law_423 : decode cL_law 423 = .ok (.aload_n 2, 1) := by decide +kernel
theorem dL_law_424 : decode cL_law 424 = .ok (.aload_n 0, 1) := by decide +kernel
theorem dL_law_425 : decode cL_law 425 = .ok (.iload_n 3, 1) := by decide +kernel
theorem dL_law_426 : decode cL_law 426 = .ok (.iconst 1, 1) := by decide +kernel
theorem dL_law_427 : decode cL_law 427 = .ok (.iadd, 1) := by decide +kernel
theorem dL_law_428 : decode cL_law 428 = .ok (.iaload, 1) := by decide +kernel
theorem dL_law_429 : decode cL_law 429 = .ok (.aload_n 0, 1) := by decide +kernel
theorem dL_law_430 : decode cL_law 430 = .ok (.iload_n 3, 1) := by decide +kernel
theorem dL_law_431 : decode cL_law 431 = .ok (.iconst 2, 1) := by decide +kernel
theorem dL_law_432 : decode cL_law 432 = .ok (.iadd, 1) := by decide +kernel
theorem dL_law_433 : decode cL_law 433 = .ok (.iaload, 1) := by decide +kernel
theorem dL_law_434 : decode cL_law 434 = .ok (.aload_n 0, 1) := by decide +kernel
theorem dL_law_435 : decode cL_law 435 = .ok (.iload_n 3, 1) := by decide +kernel
theorem dL_law_436 : decode cL_law 436 = .ok (.iconst 3, 1) := by decide +kernel
theorem dL_law_437 : decode cL_law 437 = .ok (.iadd, 1) := by decide +kernel
theorem dL_law_438 : decode cL_law 438 = .ok (.iaload, 1) := by decide +kernel
theorem dL_law_439 : decode cL_law 439 = .ok (.invokevirtual 51, 3) := by decide +kernel
theorem dL_law_442 : decode cL_law 442 = .ok (.if_icmp .eq 552, 3) := by decide +kernel
theorem dL_law_445 : decode cL_law 445 = .ok (.iconst 0, 1) := by decide +kernel
theorem dL_law_446 : decode cL_law 446 = .ok (.ireturn, 1) := by decide +kernel
theorem dL_law_447 : decode cL_law 447 = .ok (.aload_n 1, 1) := by decide +kernel
theorem dL_law_448 : decode cL_law 448 = .ok (.aload_n 0, 1) := by decide +kernel
theorem dL_law_449 : decode cL_law 449 = .ok (.iload_n 3, 1) := by decide +kernel
theorem dL_law_450 : decode cL_law 450 = .ok (.iconst 1, 1) := by decide +kernel
theorem dL_law_451 : decode cL_law 451 = .ok (.iadd, 1) := by decide +kernel
theorem dL_law_452 : decode cL_law 452 = .ok (.iaload, 1) := by decide +kernel
theorem dL_law_453 : decode cL_law 453 = .ok (.aload_n 0, 1) := by decide +kernel
theorem dL_law_454 : decode cL_law 454 = .ok (.iload_n 3, 1) := by decide +kernel
theorem dL_law_455 : decode cL_law 455 = .ok (.iconst 2, 1) := by decide +kernel
theorem dL_law_456 : decode cL_law 456 = .ok (.iadd, 1) := by decide +kernel
theorem dL_law_457 : decode cL_law 457 = .ok (.iaload, 1) := by decide +kernel
theorem dL_law_458 : decode cL_law 458 = .ok (.aload_n 0, 1) := by decide +kernel
theorem dL_law_459 : decode cL_law 459 = .ok (.iload_n 3, 1) := by decide +kernel
theorem dL_law_460 : decode cL_law 460 = .ok (.iconst 3, 1) := by decide +kernel
theorem dL_law_461 : decode cL_law 461 = .ok (.iadd, 1) := by decide +kernel
theorem dL_law_462 : decode cL_law 462 = .ok (.iaload, 1) := by decide +kernel
theorem dL_law_463 : decode cL_law 463 = .ok (.invokevirtual 52, 3) := by decide +kernel
theorem dL_law_466 : decode cL_law 466 = .ok (.aload_n 2, 1) := by decide +kernel
theorem dL_law_467 : decode cL_law 467 = .ok (.aload_n 0, 1) := by decide +kernel
theorem dL_law_468 : decode cL_law 468 = .ok (.iload_n 3, 1) := by decide +kernel
theorem dL_law_469 : decode cL_law 469 = .ok (.iconst 1, 1) := by decide +kernel
theorem dL_law_470 : decode cL_law 470 = .ok (.iadd, 1) := by decide +kernel
theorem dL_law_471 : decode cL_law 471 = .ok (.iaload, 1) := by decide +kernel
theorem dL_law_472 : decode cL_law 472 = .ok (.aload_n 0, 1) := by decide +kernel
theorem dL_law_473 : decode cL_law 473 = .ok (.iload_n 3, 1) := by decide +kernel
theorem dL_law_474 : decode cL_law 474 = .ok (.iconst 2, 1) := by decide +kernel
theorem dL_law_475 : decode cL_law 475 = .ok (.iadd, 1) := by decide +kernel
theorem dL_law_476 : decode cL_law 476 = .ok (.iaload, 1) := by decide +kernel
theorem dL_law_477 : decode cL_law 477 = .ok (.aload_n 0, 1) := by decide +kernel
theorem dL_law_478 : decode cL_law 478 = .ok (.iload_n 3, 1) := by decide +kernel
theorem dL_law_479 : decode cL_law 479 = .ok (.iconst 3, 1) := by decide +kernel
theorem dL_law_480 : decode cL_law 480 = .ok (.iadd, 1) := by decide +kernel
theorem dL_law_481 : decode cL_law 481 = .ok (.iaload, 1) := by decide +kernel
theorem dL_law_482 : decode cL_law 482 = .ok (.invokevirtual 55, 3) := by decide +kernel
theorem dL_law_485 : decode cL_law 485 = .ok (.if_icmp .eq 509, 3) := by decide +kernel
theorem dL_law_488 : decode cL_law 488 = .ok (.iconst 0, 1) := by decide +kernel
theorem dL_law_489 : decode cL_law 489 = .ok (.ireturn, 1) := by decide +kernel
theorem dL_law_490 : decode cL_law 490 = .ok (.aload_n 1, 1) := by decide +kernel
theorem dL_law_491 : decode cL_law 491 = .ok (.aload_n 0, 1) := by decide +kernel
theorem dL_law_492 : decode cL_law 492 = .ok (.iload_n 3, 1) := by decide +kernel
theorem dL_law_493 : decode cL_law 493 = .ok (.iconst 1, 1) := by decide +kernel
theorem dL_law_494 : decode cL_law 494 = .ok (.iadd, 1) := by decide +kernel
theorem dL_law_495 : decode cL_law 495 = .ok (.iaload, 1) := by decide +kernel
theorem dL_law_496 : decode cL_law 496 = .ok (.invokevirtual 56, 3) := by decide +kernel
theorem dL_law_499 : decode cL_law 499 = .ok (.aload_n 2, 1) := by decide +kernel
theorem dL_law_500 : decode cL_law 500 = .ok (.aload_n 0, 1) := by decide +kernel
theorem dL_law_501 : decode cL_law 501 = .ok (.iload_n 3, 1) := by decide +kernel
theorem dL_law_502 : decode cL_law 502 = .ok (.iconst 1, 1) := by decide +kernel
theorem dL_law_503 : decode cL_law 503 = .ok (.iadd, 1) := by decide +kernel
theorem dL_law_504 : decode cL_law 504 = .ok (.iaload, 1) := by decide +kernel
theorem dL_law_505 : decode cL_law 505 = .ok (.invokevirtual 59, 3) := by decide +kernel
theorem dL_law_508 : decode cL_law 508 = .ok (.if_icmp .eq 486, 3) := by decide +kernel
theorem dL_law_511 : decode cL_law 511 = .ok (.iconst 0, 1) := by decide +kernel
theorem dL_law_512 : decode cL_law 512 = .ok (.ireturn, 1) := by decide +kernel
theorem dL_law_513 : decode cL_law 513 = .ok (.aload_n 1, 1) := by decide +kernel
theorem dL_law_514 : decode cL_law 514 = .ok (.aload_n 0, 1) := by decide +kernel
theorem dL_law_515 : decode cL_law 515 = .ok (.iload_n 3, 1) := by decide +kernel
theorem dL_law_516 : decode cL_law 516 = .ok (.iconst 1, 1) := by decide +kernel
theorem dL_law_517 : decode cL_law 517 = .ok (.iadd, 1) := by decide +kernel
theorem dL_law_518 : decode cL_law 518 = .ok (.iaload, 1) := by decide +kernel
theorem dL_law_519 : decode cL_law 519 = .ok (.invokevirtual 60, 3) := by decide +kernel
theorem dL_law_522 : decode cL_law 522 = .ok (.aload_n 2, 1) := by decide +kernel
theorem dL_law_523 : decode cL_law 523 = .ok (.aload_n 0, 1) := by decide +kernel
theorem dL_law_524 : decode cL_law 524 = .ok (.iload_n 3, 1) := by decide +kernel
theorem dL_law_525 : decode cL_law 525 = .ok (.iconst 1, 1) := by decide +kernel
theorem dL_law_526 : decode cL_law 526 = .ok (.iadd, 1) := by decide +kernel
theorem dL_law_527 : decode cL_law 527 = .ok (.iaload, 1) := by decide +kernel
theorem dL_law_528 : decode cL_law 528 = .ok (.invokevirtual 63, 3) := by decide +kernel
theorem dL_law_531 : decode cL_law 531 = .ok (.if_icmp .eq 463, 3) := by decide +kernel
theorem dL_law_534 : decode cL_law 534 = .ok (.iconst 0, 1) := by decide +kernel
theorem dL_law_535 : decode cL_law 535 = .ok (.ireturn, 1) := by decide +kernel
theorem dL_law_536 : decode cL_law 536 = .ok (.aload_n 1, 1) := by decide +kernel
theorem dL_law_537 : decode cL_law 537 = .ok (.aload_n 0, 1) := by decide +kernel
theorem dL_law_538 : decode cL_law 538 = .ok (.iload_n 3, 1) := by decide +kernel
theorem dL_law_539 : decode cL_law 539 = .ok (.iconst 1, 1) := by decide +kernel
theorem dL_law_540 : decode cL_law 540 = .ok (.iadd, 1) := by decide +kernel
theorem dL_law_541 : decode cL_law 541 = .ok (.iaload, 1) := by decide +kernel
theorem dL_law_542 : decode cL_law 542 = .ok (.invokevirtual 64, 3) := by decide +kernel
theorem dL_law_545 : decode cL_law 545 = .ok (.aload_n 2, 1) := by decide +kernel
theorem dL_law_546 : decode cL_law 546 = .ok (.aload_n 0, 1) := by decide +kernel
theorem dL_law_547 : decode cL_law 547 = .ok (.iload_n 3, 1) := by decide +kernel
theorem dL_law_548 : decode cL_law 548 = .ok (.iconst 1, 1) := by decide +kernel
theorem dL_law_549 : decode cL_law 549 = .ok (.iadd, 1) := by decide +kernel
theorem dL_law_550 : decode cL_law 550 = .ok (.iaload, 1) := by decide +kernel
theorem dL_law_551 : decode cL_law 551 = .ok (.invokevirtual 67, 3) := by decide +kernel
theorem dL_law_554 : decode cL_law 554 = .ok (.if_icmp .eq 440, 3) := by decide +kernel
theorem dL_law_557 : decode cL_law 557 = .ok (.iconst 0, 1) := by decide +kernel
theorem dL_law_558 : decode cL_law 558 = .ok (.ireturn, 1) := by decide +kernel
theorem dL_law_559 : decode cL_law 559 = .ok (.aload_n 1, 1) := by decide +kernel
theorem dL_law_560 : decode cL_law 560 = .ok (.aload_n 0, 1) := by decide +kernel
theorem dL_law_561 : decode cL_law 561 = .ok (.iload_n 3, 1) := by decide +kernel
theorem dL_law_562 : decode cL_law 562 = .ok (.iconst 1, 1) := by decide +kernel
theorem dL_law_563 : decode cL_law 563 = .ok (.iadd, 1) := by decide +kernel
theorem dL_law_564 : decode cL_law 564 = .ok (.iaload, 1) := by decide +kernel
theorem dL_law_565 : decode cL_law 565 = .ok (.aload_n 0, 1) := by decide +kernel
theorem dL_law_566 : decode cL_law 566 = .ok (.iload_n 3, 1) := by decide +kernel
theorem dL_law_567 : decode cL_law 567 = .ok (.iconst 2, 1) := by decide +kernel
theorem dL_law_568 : decode cL_law 568 = .ok (.iadd, 1) := by decide +kernel
theorem dL_law_569 : decode cL_law 569 = .ok (.iaload, 1) := by decide +kernel
theorem dL_law_570 : decode cL_law 570 = .ok (.invokevirtual 68, 3) := by decide +kernel
theorem dL_law_573 : decode cL_law 573 = .ok (.aload_n 2, 1) := by decide +kernel
theorem dL_law_574 : decode cL_law 574 = .ok (.aload_n 0, 1) := by decide +kernel
theorem dL_law_575 : decode cL_law 575 = .ok (.iload_n 3, 1) := by decide +kernel
theorem dL_law_576 : decode cL_law 576 = .ok (.iconst 1, 1) := by decide +kernel
theorem dL_law_577 : decode cL_law 577 = .ok (.iadd, 1) := by decide +kernel
theorem dL_law_578 : decode cL_law 578 = .ok (.iaload, 1) := by decide +kernel
theorem dL_law_579 : decode cL_law 579 = .ok (.aload_n 0, 1) := by decide +kernel
theorem dL_law_580 : decode cL_law 580 = .ok (.iload_n 3, 1) := by decide +kernel
theorem dL_law_581 : decode cL_law 581 = .ok (.iconst 2, 1) := by decide +kernel
theorem dL_law_582 : decode cL_law 582 = .ok (.iadd, 1) := by decide +kernel
theorem dL_law_583 : decode cL_law 583 = .ok (.iaload, 1) := by decide +kernel
theorem dL_law_584 : decode cL_law 584 = .ok (.invokevirtual 71, 3) := by decide +kernel
theorem dL_law_587 : decode cL_law 587 = .ok (.if_icmp .eq 407, 3) := by decide +kernel
theorem dL_law_590 : decode cL_law 590 = .ok (.iconst 0, 1) := by decide +kernel
theorem dL_law_591 : decode cL_law 591 = .ok (.ireturn, 1) := by decide +kernel
theorem dL_law_592 : decode cL_law 592 = .ok (.aload_n 1, 1) := by decide +kernel
theorem dL_law_593 : decode cL_law 593 = .ok (.aload_n 0, 1) := by decide +kernel
theorem dL_law_594 : decode cL_law 594 = .ok (.iload_n 3, 1) := by decide +kernel
theorem dL_law_595 : decode cL_law 595 = .ok (.iconst 1, 1) := by decide +kernel
theorem dL_law_596 : decode cL_law 596 = .ok (.iadd, 1) := by decide +kernel
theorem dL_law_597 : decode cL_law 597 = .ok (.iaload, 1) := by decide +kernel
theorem dL_law_598 : decode cL_law 598 = .ok (.invokevirtual 72, 3) := by decide +kernel
theorem dL_law_601 : decode cL_law 601 = .ok (.aload_n 2, 1) := by decide +kernel
theorem dL_law_602 : decode cL_law 602 = .ok (.aload_n 0, 1) := by decide +kernel
theorem dL_law_603 : decode cL_law 603 = .ok (.iload_n 3, 1) := by decide +kernel
theorem dL_law_604 : decode cL_law 604 = .ok (.iconst 1, 1) := by decide +kernel
theorem dL_law_605 : decode cL_law 605 = .ok (.iadd, 1) := by decide +kernel
theorem dL_law_606 : decode cL_law 606 = .ok (.iaload, 1) := by decide +kernel
theorem dL_law_607 : decode cL_law 607 = .ok (.invokevirtual 75, 3) := by decide +kernel
theorem dL_law_610 : decode cL_law 610 = .ok (.if_icmp .eq 384, 3) := by decide +kernel
theorem dL_law_613 : decode cL_law 613 = .ok (.iconst 0, 1) := by decide +kernel
theorem dL_law_614 : decode cL_law 614 = .ok (.ireturn, 1) := by decide +kernel
theorem dL_law_615 : decode cL_law 615 = .ok (.aload_n 1, 1) := by decide +kernel
theorem dL_law_616 : decode cL_law 616 = .ok (.aload_n 0, 1) := by decide +kernel
theorem dL_law_617 : decode cL_law 617 = .ok (.iload_n 3, 1) := by decide +kernel
theorem dL_law_618 : decode cL_law 618 = .ok (.iconst 1, 1) := by decide +kernel
theorem dL_law_619 : decode cL_law 619 = .ok (.iadd, 1) := by decide +kernel
theorem dL_law_620 : decode cL_law 620 = .ok (.iaload, 1) := by decide +kernel
theorem dL_law_621 : decode cL_law 621 = .ok (.invokevirtual 76, 3) := by decide +kernel
theorem dL_law_624 : decode cL_law 624 = .ok (.aload_n 2, 1) := by decide +kernel
theorem dL_law_625 : decode cL_law 625 = .ok (.aload_n 0, 1) := by decide +kernel
theorem dL_law_626 : decode cL_law 626 = .ok (.iload_n 3, 1) := by decide +kernel
theorem dL_law_627 : decode cL_law 627 = .ok (.iconst 1, 1) := by decide +kernel
theorem dL_law_628 : decode cL_law 628 = .ok (.iadd, 1) := by decide +kernel
theorem dL_law_629 : decode cL_law 629 = .ok (.iaload, 1) := by decide +kernel
theorem dL_law_630 : decode cL_law 630 = .ok (.invokevirtual 79, 3) := by decide +kernel
theorem dL_law_633 : decode cL_law 633 = .ok (.if_icmp .eq 361, 3) := by decide +kernel
theorem dL_law_636 : decode cL_law 636 = .ok (.iconst 0, 1) := by decide +kernel
theorem dL_law_637 : decode cL_law 637 = .ok (.ireturn, 1) := by decide +kernel
theorem dL_law_638 : decode cL_law 638 = .ok (.aload_n 1, 1) := by decide +kernel
theorem dL_law_639 : decode cL_law 639 = .ok (.aload_n 0, 1) := by decide +kernel
theorem dL_law_640 : decode cL_law 640 = .ok (.iload_n 3, 1) := by decide +kernel
theorem dL_law_641 : decode cL_law 641 = .ok (.iconst 1, 1) := by decide +kernel
theorem dL_law_642 : decode cL_law 642 = .ok (.iadd, 1) := by decide +kernel
theorem dL_law_643 : decode cL_law 643 = .ok (.iaload, 1) := by decide +kernel
theorem dL_law_644 : decode cL_law 644 = .ok (.aload_n 0, 1) := by decide +kernel
theorem dL_law_645 : decode cL_law 645 = .ok (.iload_n 3, 1) := by decide +kernel
theorem dL_law_646 : decode cL_law 646 = .ok (.iconst 2, 1) := by decide +kernel
theorem dL_law_647 : decode cL_law 647 = .ok (.iadd, 1) := by decide +kernel
theorem dL_law_648 : decode cL_law 648 = .ok (.iaload, 1) := by decide +kernel
theorem dL_law_649 : decode cL_law 649 = .ok (.invokevirtual 80, 3) := by decide +kernel
theorem dL_law_652 : decode cL_law 652 = .ok (.aload_n 2, 1) := by decide +kernel
theorem dL_law_653 : decode cL_law 653 = .ok (.aload_n 0, 1) := by decide +kernel
theorem dL_law_654 : decode cL_law 654 = .ok (.iload_n 3, 1) := by decide +kernel
theorem dL_law_655 : decode cL_law 655 = .ok (.iconst 1, 1) := by decide +kernel
theorem dL_law_656 : decode cL_law 656 = .ok (.iadd, 1) := by decide +kernel
theorem dL_law_657 : decode cL_law 657 = .ok (.iaload, 1) := by decide +kernel
theorem dL_law_658 : decode cL_law 658 = .ok (.aload_n 0, 1) := by decide +kernel
theorem dL_law_659 : decode cL_law 659 = .ok (.iload_n 3, 1) := by decide +kernel
theorem dL_law_660 : decode cL_law 660 = .ok (.iconst 2, 1) := by decide +kernel
theorem dL_law_661 : decode cL_law 661 = .ok (.iadd, 1) := by decide +kernel
theorem dL_law_662 : decode cL_law 662 = .ok (.iaload, 1) := by decide +kernel
theorem dL_law_663 : decode cL_law 663 = .ok (.invokevirtual 83, 3) := by decide +kernel
theorem dL_law_666 : decode cL_law 666 = .ok (.if_icmp .eq 328, 3) := by decide +kernel
theorem dL_law_669 : decode cL_law 669 = .ok (.iconst 0, 1) := by decide +kernel
theorem dL_law_670 : decode cL_law 670 = .ok (.ireturn, 1) := by decide +kernel
theorem dL_law_671 : decode cL_law 671 = .ok (.aload_n 1, 1) := by decide +kernel
theorem dL_law_672 : decode cL_law 672 = .ok (.aload_n 0, 1) := by decide +kernel
theorem dL_law_673 : decode cL_law 673 = .ok (.iload_n 3, 1) := by decide +kernel
theorem dL_law_674 : decode cL_law 674 = .ok (.iconst 1, 1) := by decide +kernel
theorem dL_law_675 : decode cL_law 675 = .ok (.iadd, 1) := by decide +kernel
theorem dL_law_676 : decode cL_law 676 = .ok (.iaload, 1) := by decide +kernel
theorem dL_law_677 : decode cL_law 677 = .ok (.aload_n 0, 1) := by decide +kernel
theorem dL_law_678 : decode cL_law 678 = .ok (.iload_n 3, 1) := by decide +kernel
theorem dL_law_679 : decode cL_law 679 = .ok (.iconst 2, 1) := by decide +kernel
theorem dL_law_680 : decode cL_law 680 = .ok (.iadd, 1) := by decide +kernel
theorem dL_law_681 : decode cL_law 681 = .ok (.iaload, 1) := by decide +kernel
theorem dL_law_682 : decode cL_law 682 = .ok (.invokevirtual 84, 3) := by decide +kernel
theorem dL_law_685 : decode cL_law 685 = .ok (.aload_n 2, 1) := by decide +kernel
theorem dL_law_686 : decode cL_law 686 = .ok (.aload_n 0, 1) := by decide +kernel
theorem dL_law_687 : decode cL_law 687 = .ok (.iload_n 3, 1) := by decide +kernel
theorem dL_law_688 : decode cL_law 688 = .ok (.iconst 1, 1) := by decide +kernel
theorem dL_law_689 : decode cL_law 689 = .ok (.iadd, 1) := by decide +kernel
theorem dL_law_690 : decode cL_law 690 = .ok (.iaload, 1) := by decide +kernel
theorem dL_law_691 : decode cL_law 691 = .ok (.aload_n 0, 1) := by decide +kernel
theorem dL_law_692 : decode cL_law 692 = .ok (.iload_n 3, 1) := by decide +kernel
theorem dL_law_693 : decode cL_law 693 = .ok (.iconst 2, 1) := by decide +kernel
theorem dL_law_694 : decode cL_law 694 = .ok (.iadd, 1) := by decide +kernel
theorem dL_law_695 : decode cL_law 695 = .ok (.iaload, 1) := by decide +kernel
theorem dL_law_696 : decode cL_law 696 = .ok (.invokevirtual 87, 3) := by decide +kernel
theorem dL_law_699 : decode cL_law 699 = .ok (.if_icmp .eq 295, 3) := by decide +kernel
theorem dL_law_702 : decode cL_law 702 = .ok (.iconst 0, 1) := by decide +kernel
theorem dL_law_703 : decode cL_law 703 = .ok (.ireturn, 1) := by decide +kernel
theorem dL_law_704 : decode cL_law 704 = .ok (.aload_n 1, 1) := by decide +kernel
theorem dL_law_705 : decode cL_law 705 = .ok (.aload_n 0, 1) := by decide +kernel
theorem dL_law_706 : decode cL_law 706 = .ok (.iload_n 3, 1) := by decide +kernel
theorem dL_law_707 : decode cL_law 707 = .ok (.iconst 1, 1) := by decide +kernel
theorem dL_law_708 : decode cL_law 708 = .ok (.iadd, 1) := by decide +kernel
theorem dL_law_709 : decode cL_law 709 = .ok (.iaload, 1) := by decide +kernel
theorem dL_law_710 : decode cL_law 710 = .ok (.invokevirtual 88, 3) := by decide +kernel
theorem dL_law_713 : decode cL_law 713 = .ok (.aload_n 2, 1) := by decide +kernel
theorem dL_law_714 : decode cL_law 714 = .ok (.aload_n 0, 1) := by decide +kernel
theorem dL_law_715 : decode cL_law 715 = .ok (.iload_n 3, 1) := by decide +kernel
theorem dL_law_716 : decode cL_law 716 = .ok (.iconst 1, 1) := by decide +kernel
theorem dL_law_717 : decode cL_law 717 = .ok (.iadd, 1) := by decide +kernel
theorem dL_law_718 : decode cL_law 718 = .ok (.iaload, 1) := by decide +kernel
theorem dL_law_719 : decode cL_law 719 = .ok (.invokevirtual 91, 3) := by decide +kernel
theorem dL_law_722 : decode cL_law 722 = .ok (.if_icmp .eq 272, 3) := by decide +kernel
theorem dL_law_725 : decode cL_law 725 = .ok (.iconst 0, 1) := by decide +kernel
theorem dL_law_726 : decode cL_law 726 = .ok (.ireturn, 1) := by decide +kernel
theorem dL_law_727 : decode cL_law 727 = .ok (.aload_n 1, 1) := by decide +kernel
theorem dL_law_728 : decode cL_law 728 = .ok (.aload_n 0, 1) := by decide +kernel
theorem dL_law_729 : decode cL_law 729 = .ok (.iload_n 3, 1) := by decide +kernel
theorem dL_law_730 : decode cL_law 730 = .ok (.iconst 1, 1) := by decide +kernel
theorem dL_law_731 : decode cL_law 731 = .ok (.iadd, 1) := by decide +kernel
theorem dL_law_732 : decode cL_law 732 = .ok (.iaload, 1) := by decide +kernel
theorem dL_law_733 : decode cL_law 733 = .ok (.invokevirtual 92, 3) := by decide +kernel
theorem dL_law_736 : decode cL_law 736 = .ok (.aload_n 2, 1) := by decide +kernel
theorem dL_law_737 : decode cL_law 737 = .ok (.aload_n 0, 1) := by decide +kernel
theorem dL_law_738 : decode cL_law 738 = .ok (.iload_n 3, 1) := by decide +kernel
theorem dL_law_739 : decode cL_law 739 = .ok (.iconst 1, 1) := by decide +kernel
theorem dL_law_740 : decode cL_law 740 = .ok (.iadd, 1) := by decide +kernel
theorem dL_law_741 : decode cL_law 741 = .ok (.iaload, 1) := by decide +kernel
theorem dL_law_742 : decode cL_law 742 = .ok (.invokevirtual 95, 3) := by decide +kernel
theorem dL_law_745 : decode cL_law 745 = .ok (.if_icmp .eq 249, 3) := by decide +kernel
theorem dL_law_748 : decode cL_law 748 = .ok (.iconst 0, 1) := by decide +kernel
theorem dL_law_749 : decode cL_law 749 = .ok (.ireturn, 1) := by decide +kernel
theorem dL_law_750 : decode cL_law 750 = .ok (.aload_n 1, 1) := by decide +kernel
theorem dL_law_751 : decode cL_law 751 = .ok (.aload_n 0, 1) := by decide +kernel
theorem dL_law_752 : decode cL_law 752 = .ok (.iload_n 3, 1) := by decide +kernel
theorem dL_law_753 : decode cL_law 753 = .ok (.iconst 1, 1) := by decide +kernel
theorem dL_law_754 : decode cL_law 754 = .ok (.iadd, 1) := by decide +kernel
theorem dL_law_755 : decode cL_law 755 = .ok (.iaload, 1) := by decide +kernel
theorem dL_law_756 : decode cL_law 756 = .ok (.aload_n 0, 1) := by decide +kernel
theorem dL_law_757 : decode cL_law 757 = .ok (.iload_n 3, 1) := by decide +kernel
theorem dL_law_758 : decode cL_law 758 = .ok (.iconst 2, 1) := by decide +kernel
theorem dL_law_759 : decode cL_law 759 = .ok (.iadd, 1) := by decide +kernel
theorem dL_law_760 : decode cL_law 760 = .ok (.iaload, 1) := by decide +kernel
theorem dL_law_761 : decode cL_law 761 = .ok (.aload_n 0, 1) := by decide +kernel
theorem dL_law_762 : decode cL_law 762 = .ok (.iload_n 3, 1) := by decide +kernel
theorem dL_law_763 : decode cL_law 763 = .ok (.iconst 3, 1) := by decide +kernel
theorem dL_law_764 : decode cL_law 764 = .ok (.iadd, 1) := by decide +kernel
theorem dL_law_765 : decode cL_law 765 = .ok (.iaload, 1) := by decide +kernel
theorem dL_law_766 : decode cL_law 766 = .ok (.invokevirtual 96, 3) := by decide +kernel
theorem dL_law_769 : decode cL_law 769 = .ok (.aload_n 2, 1) := by decide +kernel
theorem dL_law_770 : decode cL_law 770 = .ok (.aload_n 0, 1) := by decide +kernel
theorem dL_law_771 : decode cL_law 771 = .ok (.iload_n 3, 1) := by decide +kernel
theorem dL_law_772 : decode cL_law 772 = .ok (.iconst 1, 1) := by decide +kernel
theorem dL_law_773 : decode cL_law 773 = .ok (.iadd, 1) := by decide +kernel
theorem dL_law_774 : decode cL_law 774 = .ok (.iaload, 1) := by decide +kernel
theorem dL_law_775 : decode cL_law 775 = .ok (.aload_n 0, 1) := by decide +kernel
theorem dL_law_776 : decode cL_law 776 = .ok (.iload_n 3, 1) := by decide +kernel
theorem dL_law_777 : decode cL_law 777 = .ok (.iconst 2, 1) := by decide +kernel
theorem dL_law_778 : decode cL_law 778 = .ok (.iadd, 1) := by decide +kernel
theorem dL_law_779 : decode cL_law 779 = .ok (.iaload, 1) := by decide +kernel
theorem dL_law_780 : decode cL_law 780 = .ok (.aload_n 0, 1) := by decide +kernel
theorem dL_law_781 : decode cL_law 781 = .ok (.iload_n 3, 1) := by decide +kernel
theorem dL_law_782 : decode cL_law 782 = .ok (.iconst 3, 1) := by decide +kernel
theorem dL_law_783 : decode cL_law 783 = .ok (.iadd, 1) := by decide +kernel
theorem dL_law_784 : decode cL_law 784 = .ok (.iaload, 1) := by decide +kernel
theorem dL_law_785 : decode cL_law 785 = .ok (.invokevirtual 99, 3) := by decide +kernel
theorem dL_law_788 : decode cL_law 788 = .ok (.if_icmp .eq 206, 3) := by decide +kernel
theorem dL_law_791 : decode cL_law 791 = .ok (.iconst 0, 1) := by decide +kernel
theorem dL_law_792 : decode cL_law 792 = .ok (.ireturn, 1) := by decide +kernel
theorem dL_law_793 : decode cL_law 793 = .ok (.aload_n 1, 1) := by decide +kernel
theorem dL_law_794 : decode cL_law 794 = .ok (.aload_n 0, 1) := by decide +kernel
theorem dL_law_795 : decode cL_law 795 = .ok (.iload_n 3, 1) := by decide +kernel
theorem dL_law_796 : decode cL_law 796 = .ok (.iconst 1, 1) := by decide +kernel
theorem dL_law_797 : decode cL_law 797 = .ok (.iadd, 1) := by decide +kernel
theorem dL_law_798 : decode cL_law 798 = .ok (.iaload, 1) := by decide +kernel
theorem dL_law_799 : decode cL_law 799 = .ok (.aload_n 0, 1) := by decide +kernel
theorem dL_law_800 : decode cL_law 800 = .ok (.iload_n 3, 1) := by decide +kernel
theorem dL_law_801 : decode cL_law 801 = .ok (.iconst 2, 1) := by decide +kernel
theorem dL_law_802 : decode cL_law 802 = .ok (.iadd, 1) := by decide +kernel
theorem dL_law_803 : decode cL_law 803 = .ok (.iaload, 1) := by decide +kernel
theorem dL_law_804 : decode cL_law 804 = .ok (.aload_n 0, 1) := by decide +kernel
theorem dL_law_805 : decode cL_law 805 = .ok (.iload_n 3, 1) := by decide +kernel
theorem dL_law_806 : decode cL_law 806 = .ok (.iconst 3, 1) := by decide +kernel
theorem dL_law_807 : decode cL_law 807 = .ok (.iadd, 1) := by decide +kernel
theorem dL_law_808 : decode cL_law 808 = .ok (.iaload, 1) := by decide +kernel
theorem dL_law_809 : decode cL_law 809 = .ok (.aload_n 0, 1) := by decide +kernel
theorem dL_law_810 : decode cL_law 810 = .ok (.iload_n 3, 1) := by decide +kernel
theorem dL_law_811 : decode cL_law 811 = .ok (.iconst 4, 1) := by decide +kernel
theorem dL_law_812 : decode cL_law 812 = .ok (.iadd, 1) := by decide +kernel
theorem dL_law_813 : decode cL_law 813 = .ok (.iaload, 1) := by decide +kernel
theorem dL_law_814 : decode cL_law 814 = .ok (.invokevirtual 100, 3) := by decide +kernel
theorem dL_law_817 : decode cL_law 817 = .ok (.aload_n 2, 1) := by decide +kernel
theorem dL_law_818 : decode cL_law 818 = .ok (.aload_n 0, 1) := by decide +kernel
theorem dL_law_819 : decode cL_law 819 = .ok (.iload_n 3, 1) := by decide +kernel
theorem dL_law_820 : decode cL_law 820 = .ok (.iconst 1, 1) := by decide +kernel
theorem dL_law_821 : decode cL_law 821 = .ok (.iadd, 1) := by decide +kernel
theorem dL_law_822 : decode cL_law 822 = .ok (.iaload, 1) := by decide +kernel
theorem dL_law_823 : decode cL_law 823 = .ok (.aload_n 0, 1) := by decide +kernel
theorem dL_law_824 : decode cL_law 824 = .ok (.iload_n 3, 1) := by decide +kernel
theorem dL_law_825 : decode cL_law 825 = .ok (.iconst 2, 1) := by decide +kernel
theorem dL_law_826 : decode cL_law 826 = .ok (.iadd, 1) := by decide +kernel
theorem dL_law_827 : decode cL_law 827 = .ok (.iaload, 1) := by decide +kernel
theorem dL_law_828 : decode cL_law 828 = .ok (.aload_n 0, 1) := by decide +kernel
theorem dL_law_829 : decode cL_law 829 = .ok (.iload_n 3, 1) := by decide +kernel
theorem dL_law_830 : decode cL_law 830 = .ok (.iconst 3, 1) := by decide +kernel
theorem dL_law_831 : decode cL_law 831 = .ok (.iadd, 1) := by decide +kernel
theorem dL_law_832 : decode cL_law 832 = .ok (.iaload, 1) := by decide +kernel
theorem dL_law_833 : decode cL_law 833 = .ok (.aload_n 0, 1) := by decide +kernel
theorem dL_law_834 : decode cL_law 834 = .ok (.iload_n 3, 1) := by decide +kernel
theorem dL_law_835 : decode cL_law 835 = .ok (.iconst 4, 1) := by decide +kernel
theorem dL_law_836 : decode cL_law 836 = .ok (.iadd, 1) := by decide +kernel
theorem dL_law_837 : decode cL_law 837 = .ok (.iaload, 1) := by decide +kernel
theorem dL_law_838 : decode cL_law 838 = .ok (.invokevirtual 104, 3) := by decide +kernel
theorem dL_law_841 : decode cL_law 841 = .ok (.if_icmp .eq 153, 3) := by decide +kernel
theorem dL_law_844 : decode cL_law 844 = .ok (.iconst 0, 1) := by decide +kernel
theorem dL_law_845 : decode cL_law 845 = .ok (.ireturn, 1) := by decide +kernel
theorem dL_law_846 : decode cL_law 846 = .ok (.aload_n 1, 1) := by decide +kernel
theorem dL_law_847 : decode cL_law 847 = .ok (.aload_n 0, 1) := by decide +kernel
theorem dL_law_848 : decode cL_law 848 = .ok (.iload_n 3, 1) := by decide +kernel
theorem dL_law_849 : decode cL_law 849 = .ok (.iconst 1, 1) := by decide +kernel
theorem dL_law_850 : decode cL_law 850 = .ok (.iadd, 1) := by decide +kernel
theorem dL_law_851 : decode cL_law 851 = .ok (.iaload, 1) := by decide +kernel
theorem dL_law_852 : decode cL_law 852 = .ok (.aload_n 0, 1) := by decide +kernel
theorem dL_law_853 : decode cL_law 853 = .ok (.iload_n 3, 1) := by decide +kernel
theorem dL_law_854 : decode cL_law 854 = .ok (.iconst 2, 1) := by decide +kernel
theorem dL_law_855 : decode cL_law 855 = .ok (.iadd, 1) := by decide +kernel
theorem dL_law_856 : decode cL_law 856 = .ok (.iaload, 1) := by decide +kernel
theorem dL_law_857 : decode cL_law 857 = .ok (.invokevirtual 105, 3) := by decide +kernel
theorem dL_law_860 : decode cL_law 860 = .ok (.aload_n 2, 1) := by decide +kernel
theorem dL_law_861 : decode cL_law 861 = .ok (.aload_n 0, 1) := by decide +kernel
theorem dL_law_862 : decode cL_law 862 = .ok (.iload_n 3, 1) := by decide +kernel
theorem dL_law_863 : decode cL_law 863 = .ok (.iconst 1, 1) := by decide +kernel
theorem dL_law_864 : decode cL_law 864 = .ok (.iadd, 1) := by decide +kernel
theorem dL_law_865 : decode cL_law 865 = .ok (.iaload, 1) := by decide +kernel
theorem dL_law_866 : decode cL_law 866 = .ok (.aload_n 0, 1) := by decide +kernel
theorem dL_law_867 : decode cL_law 867 = .ok (.iload_n 3, 1) := by decide +kernel
theorem dL_law_868 : decode cL_law 868 = .ok (.iconst 2, 1) := by decide +kernel
theorem dL_law_869 : decode cL_law 869 = .ok (.iadd, 1) := by decide +kernel
theorem dL_law_870 : decode cL_law 870 = .ok (.iaload, 1) := by decide +kernel
theorem dL_law_871 : decode cL_law 871 = .ok (.invokevirtual 108, 3) := by decide +kernel
theorem dL_law_874 : decode cL_law 874 = .ok (.if_icmp .eq 120, 3) := by decide +kernel
theorem dL_law_877 : decode cL_law 877 = .ok (.iconst 0, 1) := by decide +kernel
theorem dL_law_878 : decode cL_law 878 = .ok (.ireturn, 1) := by decide +kernel
theorem dL_law_879 : decode cL_law 879 = .ok (.aload_n 1, 1) := by decide +kernel
theorem dL_law_880 : decode cL_law 880 = .ok (.aload_n 0, 1) := by decide +kernel
theorem dL_law_881 : decode cL_law 881 = .ok (.iload_n 3, 1) := by decide +kernel
theorem dL_law_882 : decode cL_law 882 = .ok (.iconst 1, 1) := by decide +kernel
theorem dL_law_883 : decode cL_law 883 = .ok (.iadd, 1) := by decide +kernel
theorem dL_law_884 : decode cL_law 884 = .ok (.iaload, 1) := by decide +kernel
theorem dL_law_885 : decode cL_law 885 = .ok (.invokevirtual 109, 3) := by decide +kernel
theorem dL_law_888 : decode cL_law 888 = .ok (.aload_n 2, 1) := by decide +kernel
theorem dL_law_889 : decode cL_law 889 = .ok (.aload_n 0, 1) := by decide +kernel
theorem dL_law_890 : decode cL_law 890 = .ok (.iload_n 3, 1) := by decide +kernel
theorem dL_law_891 : decode cL_law 891 = .ok (.iconst 1, 1) := by decide +kernel
theorem dL_law_892 : decode cL_law 892 = .ok (.iadd, 1) := by decide +kernel
theorem dL_law_893 : decode cL_law 893 = .ok (.iaload, 1) := by decide +kernel
theorem dL_law_894 : decode cL_law 894 = .ok (.invokevirtual 112, 3) := by decide +kernel
theorem dL_law_897 : decode cL_law 897 = .ok (.if_icmp .eq 97, 3) := by decide +kernel
theorem dL_law_900 : decode cL_law 900 = .ok (.iconst 0, 1) := by decide +kernel
theorem dL_law_901 : decode cL_law 901 = .ok (.ireturn, 1) := by decide +kernel
theorem dL_law_902 : decode cL_law 902 = .ok (.aload_n 1, 1) := by decide +kernel
theorem dL_law_903 : decode cL_law 903 = .ok (.aload_n 0, 1) := by decide +kernel
theorem dL_law_904 : decode cL_law 904 = .ok (.iload_n 3, 1) := by decide +kernel
theorem dL_law_905 : decode cL_law 905 = .ok (.iconst 1, 1) := by decide +kernel
theorem dL_law_906 : decode cL_law 906 = .ok (.iadd, 1) := by decide +kernel
theorem dL_law_907 : decode cL_law 907 = .ok (.iaload, 1) := by decide +kernel
theorem dL_law_908 : decode cL_law 908 = .ok (.invokevirtual 113, 3) := by decide +kernel
theorem dL_law_911 : decode cL_law 911 = .ok (.aload_n 2, 1) := by decide +kernel
theorem dL_law_912 : decode cL_law 912 = .ok (.aload_n 0, 1) := by decide +kernel
theorem dL_law_913 : decode cL_law 913 = .ok (.iload_n 3, 1) := by decide +kernel
theorem dL_law_914 : decode cL_law 914 = .ok (.iconst 1, 1) := by decide +kernel
theorem dL_law_915 : decode cL_law 915 = .ok (.iadd, 1) := by decide +kernel
theorem dL_law_916 : decode cL_law 916 = .ok (.iaload, 1) := by decide +kernel
theorem dL_law_917 : decode cL_law 917 = .ok (.invokevirtual 116, 3) := by decide +kernel
theorem dL_law_920 : decode cL_law 920 = .ok (.if_icmp .eq 74, 3) := by decide +kernel
theorem dL_law_923 : decode cL_law 923 = .ok (.iconst 0, 1) := by decide +kernel
theorem dL_law_924 : decode cL_law 924 = .ok (.ireturn, 1) := by decide +kernel
theorem dL_law_925 : decode cL_law 925 = .ok (.aload_n 1, 1) := by decide +kernel
theorem dL_law_926 : decode cL_law 926 = .ok (.aload_n 0, 1) := by decide +kernel
theorem dL_law_927 : decode cL_law 927 = .ok (.iload_n 3, 1) := by decide +kernel
theorem dL_law_928 : decode cL_law 928 = .ok (.iconst 1, 1) := by decide +kernel
theorem dL_law_929 : decode cL_law 929 = .ok (.iadd, 1) := by decide +kernel
theorem dL_law_930 : decode cL_law 930 = .ok (.iaload, 1) := by decide +kernel
theorem dL_law_931 : decode cL_law 931 = .ok (.invokevirtual 117, 3) := by decide +kernel
theorem dL_law_934 : decode cL_law 934 = .ok (.aload_n 2, 1) := by decide +kernel
theorem dL_law_935 : decode cL_law 935 = .ok (.aload_n 0, 1) := by decide +kernel
theorem dL_law_936 : decode cL_law 936 = .ok (.iload_n 3, 1) := by decide +kernel
theorem dL_law_937 : decode cL_law 937 = .ok (.iconst 1, 1) := by decide +kernel
theorem dL_law_938 : decode cL_law 938 = .ok (.iadd, 1) := by decide +kernel
theorem dL_law_939 : decode cL_law 939 = .ok (.iaload, 1) := by decide +kernel
theorem dL_law_940 : decode cL_law 940 = .ok (.invokevirtual 120, 3) := by decide +kernel
theorem dL_law_943 : decode cL_law 943 = .ok (.if_icmp .eq 51, 3) := by decide +kernel
theorem dL_law_946 : decode cL_law 946 = .ok (.iconst 0, 1) := by decide +kernel
theorem dL_law_947 : decode cL_law 947 = .ok (.ireturn, 1) := by decide +kernel
theorem dL_law_948 : decode cL_law 948 = .ok (.aload_n 1, 1) := by decide +kernel
theorem dL_law_949 : decode cL_law 949 = .ok (.aload_n 0, 1) := by decide +kernel
theorem dL_law_950 : decode cL_law 950 = .ok (.iload_n 3, 1) := by decide +kernel
theorem dL_law_951 : decode cL_law 951 = .ok (.iconst 1, 1) := by decide +kernel
theorem dL_law_952 : decode cL_law 952 = .ok (.iadd, 1) := by decide +kernel
theorem dL_law_953 : decode cL_law 953 = .ok (.iaload, 1) := by decide +kernel
theorem dL_law_954 : decode cL_law 954 = .ok (.invokevirtual 121, 3) := by decide +kernel
theorem dL_law_957 : decode cL_law 957 = .ok (.aload_n 2, 1) := by decide +kernel
theorem dL_law_958 : decode cL_law 958 = .ok (.aload_n 0, 1) := by decide +kernel
theorem dL_law_959 : decode cL_law 959 = .ok (.iload_n 3, 1) := by decide +kernel
theorem dL_law_960 : decode cL_law 960 = .ok (.iconst 1, 1) := by decide +kernel
theorem dL_law_961 : decode cL_law 961 = .ok (.iadd, 1) := by decide +kernel
theorem dL_law_962 : decode cL_law 962 = .ok (.iaload, 1) := by decide +kernel
theorem dL_law_963 : decode cL_law 963 = .ok (.invokevirtual 124, 3) := by decide +kernel
theorem dL_law_966 : decode cL_law 966 = .ok (.if_icmp .eq 28, 3) := by decide +kernel
theorem dL_law_969 : decode cL_law 969 = .ok (.iconst 0, 1) := by decide +kernel
theorem dL_law_970 : decode cL_law 970 = .ok (.ireturn, 1) := by decide +kernel
theorem dL_law_971 : decode cL_law 971 = .ok (.aload_n 1, 1) := by decide +kernel
theorem dL_law_972 : decode cL_law 972 = .ok (.aload_n 0, 1) := by decide +kernel
theorem dL_law_973 : decode cL_law 973 = .ok (.iload_n 3, 1) := by decide +kernel
theorem dL_law_974 : decode cL_law 974 = .ok (.iconst 1, 1) := by decide +kernel
theorem dL_law_975 : decode cL_law 975 = .ok (.iadd, 1) := by decide +kernel
theorem dL_law_976 : decode cL_law 976 = .ok (.iaload, 1) := by decide +kernel
theorem dL_law_977 : decode cL_law 977 = .ok (.invokevirtual 125, 3) := by decide +kernel
theorem dL_law_980 : decode cL_law 980 = .ok (.aload_n 2, 1) := by decide +kernel
theorem dL_law_981 : decode cL_law 981 = .ok (.aload_n 0, 1) := by decide +kernel
theorem dL_law_982 : decode cL_law 982 = .ok (.iload_n 3, 1) := by decide +kernel
theorem dL_law_983 : decode cL_law 983 = .ok (.iconst 1, 1) := by decide +kernel
theorem dL_law_984 : decode cL_law 984 = .ok (.iadd, 1) := by decide +kernel
theorem dL_law_985 : decode cL_law 985 = .ok (.iaload, 1) := by decide +kernel
theorem dL_law_986 : decode cL_law 986 = .ok (.invokevirtual 128, 3) := by decide +kernel
theorem dL_law_989 : decode cL_law 989 = .ok (.if_icmp .eq 5, 3) := by decide +kernel
theorem dL_law_992 : decode cL_law 992 = .ok (.iconst 0, 1) := by decide +kernel
theorem dL_law_993 : decode cL_law 993 = .ok (.ireturn, 1) := by decide +kernel
theorem dL_law_994 : decode cL_law 994 = .ok (.iinc 3 5, 3) := by decide +kernel
theorem dL_law_997 : decode cL_law 997 = .ok (.goto (-979), 3) := by decide +kernel
theorem dL_law_1000 : decode cL_law 1000 = .ok (.iconst 1, 1) := by decide +kernel
theorem dL_law_1001 : decode cL_law 1001 = .ok (.ireturn, 1) := by decide +kernel
end
section
set_option maxRecDepth 20000 in
theorem in_wsL_law_r1 : GoodIn lw_tbl wsL_law_r1 := goodIn_p wsL_law_r1 [37, 40, 48] (by decide +kernel) (by decide +kernel)
set_option maxRecDepth 20000 in
theorem in_wsL_law_r2 : GoodIn lw_tbl wsL_law_r2 := goodIn_p wsL_law_r2 [481, 81] (by decide +kernel) (by decide +kernel)
set_option maxRecDepth 20000 in
theorem in_wsL_law_r3 : GoodIn lw_tbl wsL_law_r3 := goodIn_p wsL_law_r3 [87, 94, 524] (by decide +kernel) (by decide +kernel)
set_option maxRecDepth 20000 in
theorem in_wsL_law_r4 : GoodIn lw_tbl wsL_law_r4 := goodIn_p wsL_law_r4 [527, 532, 132, 136, 536, 540] (by decide +kernel) (by decide +kernel)
set_option maxRecDepth 20000 in
theorem in_wsL_law_r5 : GoodIn lw_tbl wsL_law_r5 := goodIn_p wsL_law_r5 [544, 548, 141, 146, 553] (by decide +kernel) (by decide +kernel)
set_option maxRecDepth 20000 in
theorem in_wsL_law_r6 : GoodIn lw_tbl wsL_law_r6 := goodIn_p wsL_law_r6 [150, 155, 159, 164, 558] (by decide +kernel) (by decide +kernel)
set_option maxRecDepth 20000 in
theorem in_wsL_law_r7 : GoodIn lw_tbl wsL_law_r7 := goodIn_p wsL_law_r7 [168, 173, 563, 567, 572] (by decide +kernel) (by decide +kernel)
set_option maxRecDepth 20000 in
theorem in_wsL_law_r8 : GoodIn lw_tbl wsL_law_r8 := goodIn_p wsL_law_r8 [178, 181, 184, 189, 193] (by decide +kernel) (by decide +kernel)
set_option maxRecDepth 20000 in
theorem in_wsL_law_r9 : GoodIn lw_tbl wsL_law_r9 := goodIn_p wsL_law_r9 [197, 202, 217, 221, 576] (by decide +kernel) (by decide +kernel)
set_option maxRecDepth 20000 in
theorem in_wsL_law_r10 : GoodIn lw_tbl wsL_law_r10 := goodIn_p wsL_law_r10 [581, 585, 227, 589, 232] (by decide +kernel) (by decide +kernel)
set_option maxRecDepth 20000 in
theorem in_wsL_law_r11 : GoodIn lw_tbl wsL_law_r11 := goodIn_p wsL_law_r11 [594, 236, 598, 242, 604] (by decide +kernel) (by decide +kernel)
set_option maxRecDepth 20000 in
theorem in_wsL_law_r12 : GoodIn lw_tbl wsL_law_r12 := goodIn_p wsL_law_r12 [246, 250, 608, 254, 258, 612] (by decide +kernel) (by decide +kernel)
set_option maxRecDepth 20000 in
theorem in_wsL_law_r13 : GoodIn lw_tbl wsL_law_r13 := goodIn_p wsL_law_r13 [262, 266, 270, 275, 279] (by decide +kernel) (by decide +kernel)
set_option maxRecDepth 20000 in
theorem in_wsL_law_r14 : GoodIn lw_tbl wsL_law_r14 := goodIn_p wsL_law_r14 [283, 616, 620, 624, 629] (by decide +kernel) (by decide +kernel)
set_option maxRecDepth 20000 in
theorem in_wsL_law_r15 : GoodIn lw_tbl wsL_law_r15 := goodIn_p wsL_law_r15 [287, 291, 296, 301, 633] (by decide +kernel) (by decide +kernel)
set_option maxRecDepth 20000 in
theorem in_wsL_law_r16 : GoodIn lw_tbl wsL_law_r16 := goodIn_p wsL_law_r16 [636, 320, 324, 641, 329] (by decide +kernel) (by decide +kernel)
set_option maxRecDepth 20000 in
theorem in_wsL_law_r17 : GoodIn lw_tbl wsL_law_r17 := goodIn_p wsL_law_r17 [646, 333, 337, 650, 342, 654] (by decide +kernel) (by decide +kernel)
set_option maxRecDepth 20000 in
theorem in_wsL_law_r18 : GoodIn lw_tbl wsL_law_r18 := goodIn_p wsL_law_r18 [346, 658, 350, 354, 359] (by decide +kernel) (by decide +kernel)
set_option maxRecDepth 20000 in
theorem in_wsL_law_r19 : GoodIn lw_tbl wsL_law_r19 := goodIn_p wsL_law_r19 [382, 662, 665, 386, 390] (by decide +kernel) (by decide +kernel)
set_option maxRecDepth 20000 in
theorem in_wsL_law_r20 : GoodIn lw_tbl wsL_law_r20 := goodIn_p wsL_law_r20 [394, 401, 412, 405, 409] (by decide +kernel) (by decide +kernel)
set_option maxRecDepth 20000 in
theorem in_wsL_law_r21 : GoodIn lw_tbl wsL_law_r21 := goodIn_p wsL_law_r21 [418, 425, 429, 432, 439, 669] (by decide +kernel) (by decide +kernel)
set_option maxRecDepth 20000 in
theorem in_wsL_law_r22 : GoodIn lw_tbl wsL_law_r22 := goodIn_p wsL_law_r22 [673, 677, 684, 689] (by decide +kernel) (by decide +kernel)
set_option maxRecDepth 20000 in
theorem in_wsL_law_r23 : GoodIn lw_tbl wsL_law_r23 := goodIn_p wsL_law_r23 [693, 443, 447, 702, 451] (by decide +kernel) (by decide +kernel)
set_option maxRecDepth 20000 in
theorem in_wsL_law_r24 : GoodIn lw_tbl wsL_law_r24 := goodIn_p wsL_law_r24 [706, 455, 710, 459, 714, 463] (by decide +kernel) (by decide +kernel)
set_option maxRecDepth 20000 in
theorem in_wsL_law_r25 : GoodIn lw_tbl wsL_law_r25 := goodIn_p wsL_law_r25 [718, 468, 472, 723, 476, 727] (by decide +kernel) (by decide +kernel)
set_option maxRecDepth 20000 in
theorem in_wsX00 : GoodIn lw_tbl wsX00 := goodIn_p wsX00 [] (by decide +kernel) (by decide +kernel)
set_option maxRecDepth 20000 in
theorem in_wsX10 : GoodIn lw_tbl wsX10 := goodIn_p wsX10 [] (by decide +kernel) (by decide +kernel)
set_option maxRecDepth 20000 in
theorem in_wsX20 : GoodIn lw_tbl wsX20 := goodIn_p wsX20 [] (by decide +kernel) (by decide +kernel)
set_option maxRecDepth 20000 in
theorem in_wsX30 : GoodIn lw_tbl wsX30 := goodIn_p wsX30 [] (by decide +kernel) (by decide +kernel)
set_option maxRecDepth 20000 in
theorem in_wsX40 : GoodIn lw_tbl wsX40 := goodIn_p wsX40 [] (by decide +kernel) (by decide +kernel)
set_option maxRecDepth 20000 in
theorem in_wsX50 : GoodIn lw_tbl wsX50 := goodIn_p wsX50 [] (by decide +kernel) (by decide +kernel)
set_option maxRecDepth 20000 in
theorem in_wsX60 : GoodIn lw_tbl wsX60 := goodIn_p wsX60 [] (by decide +kernel) (by decide +kernel)
set_option maxRecDepth 20000 in
theorem in_wsX70 : GoodIn lw_tbl wsX70 := goodIn_p wsX70 [] (by decide +kernel) (by decide +kernel)
theorem wsL_law_good : GoodIn lw_tbl wsL_law := goodIn_app (goodIn_app (goodIn_app (goodIn_app (goodIn_app (goodIn_app (goodIn_app (goodIn_app (goodIn_app (goodIn_app in_wsL_law_r1 (goodIn_app in_wsL_law_r2 (goodIn_app in_wsL_law_r3 (goodIn_app in_wsL_law_r4 (goodIn_app in_wsL_law_r5 (goodIn_app in_wsL_law_r6 (goodIn_app in_wsL_law_r7 (goodIn_app in_wsL_law_r8 (goodIn_app in_wsL_law_r9 (goodIn_app in_wsL_law_r10 (goodIn_app in_wsL_law_r11 (goodIn_app in_wsL_law_r12 (goodIn_app in_wsL_law_r13 (goodIn_app in_wsL_law_r14 (goodIn_app in_wsL_law_r15 (goodIn_app in_wsL_law_r16 (goodIn_app in_wsL_law_r17 (goodIn_app in_wsL_law_r18 (goodIn_app in_wsL_law_r19 (goodIn_app in_wsL_law_r20 (goodIn_app in_wsL_law_r21 (goodIn_app in_wsL_law_r22 (goodIn_app in_wsL_law_r23 (goodIn_app in_wsL_law_r24 (in_wsL_law_r25))))))))))))))))))))))))) in_wsX60) in_wsX70) in_wsX00) in_wsX10) in_wsX20) in_wsX40) in_wsX30) in_wsX50) (fun _ h => absurd h List.not_mem_nil)
theorem wsL_law_in : ∀ w ∈ wsL_law, w ∈ lw_tbl := fun w h => (wsL_law_good w h).1
theorem inlX0 : ∀ w ∈ wsX00, w ∈ wsL_law := fun _ h => List.mem_append_left _ (List.mem_append_left _ (List.mem_append_left _ (List.mem_append_left _ (List.mem_append_left _ (List.mem_append_left _ (List.mem_append_right _ h))))))
theorem inX0 : ∀ w ∈ wsX00, w ∈ lw_tbl := fun w h => wsL_law_in w (inlX0 w h)
theorem inlX1 : ∀ w ∈ wsX10, w ∈ wsL_law := fun _ h => List.mem_append_left _ (List.mem_append_left _ (List.mem_append_left _ (List.mem_append_left _ (List.mem_append_left _ (List.mem_append_right _ h)))))
theorem inX1 : ∀ w ∈ wsX10, w ∈ lw_tbl := fun w h => wsL_law_in w (inlX1 w h)
theorem inlX2 : ∀ w ∈ wsX20, w ∈ wsL_law := fun _ h => List.mem_append_left _ (List.mem_append_left _ (List.mem_append_left _ (List.mem_append_left _ (List.mem_append_right _ h))))
theorem inX2 : ∀ w ∈ wsX20, w ∈ lw_tbl := fun w h => wsL_law_in w (inlX2 w h)
theorem inlX3 : ∀ w ∈ wsX30, w ∈ wsL_law := fun _ h => List.mem_append_left _ (List.mem_append_left _ (List.mem_append_right _ h))
theorem inX3 : ∀ w ∈ wsX30, w ∈ lw_tbl := fun w h => wsL_law_in w (inlX3 w h)
theorem inlX4 : ∀ w ∈ wsX40, w ∈ wsL_law := fun _ h => List.mem_append_left _ (List.mem_append_left _ (List.mem_append_left _ (List.mem_append_right _ h)))
theorem inX4 : ∀ w ∈ wsX40, w ∈ lw_tbl := fun w h => wsL_law_in w (inlX4 w h)
theorem inlX5 : ∀ w ∈ wsX50, w ∈ wsL_law := fun _ h => List.mem_append_left _ (List.mem_append_right _ h)
theorem inX5 : ∀ w ∈ wsX50, w ∈ lw_tbl := fun w h => wsL_law_in w (inlX5 w h)
theorem inlX6 : ∀ w ∈ wsX60, w ∈ wsL_law := fun _ h => List.mem_append_left _ (List.mem_append_left _ (List.mem_append_left _ (List.mem_append_left _ (List.mem_append_left _ (List.mem_append_left _ (List.mem_append_left _ (List.mem_append_left _ (List.mem_append_right _ h))))))))
theorem inX6 : ∀ w ∈ wsX60, w ∈ lw_tbl := fun w h => wsL_law_in w (inlX6 w h)
theorem inlX7 : ∀ w ∈ wsX70, w ∈ wsL_law := fun _ h => List.mem_append_left _ (List.mem_append_left _ (List.mem_append_left _ (List.mem_append_left _ (List.mem_append_left _ (List.mem_append_left _ (List.mem_append_left _ (List.mem_append_right _ h)))))))
theorem inX7 : ∀ w ∈ wsX70, w ∈ lw_tbl := fun w h => wsL_law_in w (inlX7 w h)
theorem inJ9 : ∀ w ∈ wsJ90, w ∈ lw_tbl := by decide +kernel
theorem inJ10 : ∀ w ∈ wsJ100, w ∈ lw_tbl := by decide +kernel
end
section
/-! BASE: a world is a list of cells wd; hH says that the heap holds it, that it is apart, that the class tables and the array classes are known -/
abbrev hG : Type := va_G × (Nat → ClassId)
abbrev hTY (G : hG) : List (ClassId × FieldType) := [(G.2 0, .int), (G.2 1, .boolean), (G.2 2, .object RX0), (G.2 3, .object RX1), (G.2 4, .object RX2), (G.2 5, .object RX3), (G.2 6, .object RX4), (G.2 7, .object RX5), (G.2 8, .array .int)]
def hH (G : hG) (A : Nat → Prop) (H0 : Heap) (s : State) (wd : va_W) (H : Heap) (locs : List Loc) : Prop :=
  va_K G.1 vwCl (hTY G) s ∧ va_P G.1 vwCl wd H ∧ va_D A wd ∧ va_S A H0 H locs ∧ ∀ q, H0.size ≤ q → A q
abbrev hAI (G : hG) (n : Nat) (f : Nat → Int32) : va_E := .inl (G.2 0, n, .inl f)
abbrev hAQ (G : hG) (t n : Nat) (f : Nat → Option Nat) : va_E := .inl (G.2 t, n, .inr (.inr (.inr (.inr f))))
abbrev hPre (G : hG) (wd : va_W) (av : List Value) (sz : Nat) : Array Value → State → Prop := va_Pc av (fun U => U.heap.size = sz ∧ va_P G.1 vwCl wd U.heap ∧ va_K G.1 vwCl (hTY G) U ∧ va_D (fun _ => True) wd)
abbrev hB (G : hG) (A : Nat → Prop) : va_W → State → Prop := fun wd t => va_P G.1 vwCl wd t.heap ∧ va_K G.1 vwCl (hTY G) t ∧ va_D A wd
/-- the contract of a method that answers an int (or a boolean) -/
def hMi (l : Launch) (G : hG) (y : MethodName) (ws : List Cond) (rm : Room) (wd : va_W) (av : List Value) (post : Int32 → va_W → Prop) : Prop :=
  ∀ sz : Nat, Met l y ws rm (hPre G wd av sz) (va_Qi post (hB G (va_A wd sz)) (va_A wd sz)) rm.cells rm.slots (va_A wd sz)
/-- of a method without an answer -/
def hMv (l : Launch) (G : hG) (y : MethodName) (ws : List Cond) (rm : Room) (wd : va_W) (av : List Value) (post : va_W → Prop) : Prop :=
  ∀ sz : Nat, Met l y ws rm (hPre G wd av sz) (va_Qv post (hB G (va_A wd sz)) (va_A wd sz)) rm.cells rm.slots (va_A wd sz)
/-- of a method that answers a reference or null -/
def hMq (l : Launch) (G : hG) (y : MethodName) (ws : List Cond) (rm : Room) (wd : va_W) (av : List Value) (post : Option Nat → va_W → Prop) : Prop :=
  ∀ sz : Nat, Met l y ws rm (hPre G wd av sz) (va_Qq post (hB G (va_A wd sz)) (va_A wd sz)) rm.cells rm.slots (va_A wd sz)
section HXE
variable {l : Launch} {G : hG} {y : MethodName} {ws ws' : List Cond} {rm : Room} {wd : va_W} {av : List Value} {cc : ByteArray} {maxL : Nat}
theorem hx_enter {p : Program} {e : Env} {s : State} {m : MethodId} {below : List Frame} {meth : Method} {c : Code} {s₁ : State} {args : Array Value} {ret : Option FieldType} {Q : State → Prop} (own : String) (hown0 : y.cls = own) (hlen : (lg_sl av).length ≤ maxL) (B : BodyLoose p l y (headSpec ws rm) cc maxL ret e s m args below meth c s₁) (hml : c.maxLocals = maxL) {sz : Nat} (hv : hPre G wd av sz args s)
    (k : sz = s.heap.size → args = av.toArray → CallFix p m c cc maxL s args ws own → meth.sig.returnType = ret → meth.locks = false → hH G (va_A wd s.heap.size) s.heap s wd s.heap [] → ∀ ls, lv_has ls maxL (lv_args 0 av) → W p l e rm s m args below meth c s.heap [] 0 0 Q (F0 m 0 ls [])) :
    W p l e (headSpec ws rm).room s m args below meth c s.heap [] 0 0 Q (entryFrame m args maxL) := by
  obtain ⟨ha, hsz, hP, hK, hD0⟩ := hv
  subst hown0
  have hts := atoms_spec (ws := ws) B.pre
  have hown : s.vm.findClass y.cls = some m.cls := findClass_of_methodNamed B.named
  have hl := lv_entry av (n := maxL) hlen
  have h := k hsz.symm ha ⟨B.exec, B.bytes, hml, hown, hts⟩ B.returns B.notSynchronized ⟨hK, hP, hD0.self, va_S.rf, fun q h => Or.inr h⟩ _ hl
  rw [ha] at h ⊢
  rw [lg_entry_eq]
  exact h
theorem hMi.of (ret : Option FieldType) (own : String) (hown : y.cls = own) (hy : plainName y.cls = true) (hw : ws = Cond.code y cc maxL ret :: ws') (hlen : (lg_sl av).length ≤ maxL) {post : Int32 → va_W → Prop}
    (k : ∀ (p : Program) (e : Env) (s : State) (m : MethodId) (args : Array Value) (below : List Frame) (meth : Method) (c : Code), CallFix p m c cc maxL s args ws own → meth.sig.returnType = ret → meth.locks = false → hH G (va_A wd s.heap.size) s.heap s wd s.heap [] → ∀ ls, lv_has ls maxL (lv_args 0 av) →
      W p l e rm s m args below meth c s.heap [] 0 0 (MQ below (va_Qi post (hB G (va_A wd s.heap.size)) (va_A wd s.heap.size)) args s rm.cells rm.slots (va_A wd s.heap.size)) (F0 m 0 ls [])) : hMi l G y ws rm wd av post := by
  intro sz
  refine Met.ofW hy hw ?_
  intro p e s m args below meth c s₁ B hml hv
  refine hx_enter own hown hlen B hml hv fun hsz ha S hr hlk X ls hl => ?_
  subst hsz
  exact k p e s m args below meth c S hr hlk X ls hl
theorem hMv.of (ret : Option FieldType) (own : String) (hown : y.cls = own) (hy : plainName y.cls = true) (hw : ws = Cond.code y cc maxL ret :: ws') (hlen : (lg_sl av).length ≤ maxL) {post : va_W → Prop}
    (k : ∀ (p : Program) (e : Env) (s : State) (m : MethodId) (args : Array Value) (below : List Frame) (meth : Method) (c : Code), CallFix p m c cc maxL s args ws own → meth.sig.returnType = ret → meth.locks = false → (meth.name = y.name) → hH G (va_A wd s.heap.size) s.heap s wd s.heap [] → ∀ ls, lv_has ls maxL (lv_args 0 av) →
      W p l e rm s m args below meth c s.heap [] 0 0 (MQ below (va_Qv post (hB G (va_A wd s.heap.size)) (va_A wd s.heap.size)) args s rm.cells rm.slots (va_A wd s.heap.size)) (F0 m 0 ls [])) : hMv l G y ws rm wd av post := by
  intro sz
  refine Met.ofW hy hw ?_
  intro p e s m args below meth c s₁ B hml hv
  refine hx_enter own hown hlen B hml hv fun hsz ha S hr hlk X ls hl => ?_
  subst hsz
  exact k p e s m args below meth c S hr hlk (name_of_methodNamed B.named B.method).1 X ls hl
theorem hMq.of (ret : Option FieldType) (own : String) (hown : y.cls = own) (hy : plainName y.cls = true) (hw : ws = Cond.code y cc maxL ret :: ws') (hlen : (lg_sl av).length ≤ maxL) {post : Option Nat → va_W → Prop}
    (k : ∀ (p : Program) (e : Env) (s : State) (m : MethodId) (args : Array Value) (below : List Frame) (meth : Method) (c : Code), CallFix p m c cc maxL s args ws own → meth.sig.returnType = ret → meth.locks = false → hH G (va_A wd s.heap.size) s.heap s wd s.heap [] → ∀ ls, lv_has ls maxL (lv_args 0 av) →
      W p l e rm s m args below meth c s.heap [] 0 0 (MQ below (va_Qq post (hB G (va_A wd s.heap.size)) (va_A wd s.heap.size)) args s rm.cells rm.slots (va_A wd s.heap.size)) (F0 m 0 ls [])) : hMq l G y ws rm wd av post := by
  intro sz
  refine Met.ofW hy hw ?_
  intro p e s m args below meth c s₁ B hml hv
  refine hx_enter own hown hlen B hml hv fun hsz ha S hr hlk X ls hl => ?_
  subst hsz
  exact k p e s m args below meth c S hr hlk X ls hl
end HXE
section HX
variable {p : Program} {l : Launch} {e : Env} {R : Room} {s : State} {m : MethodId} {args : Array Value} {below : List Frame} {meth : Method} {c : Code} {H H0 : Heap} {locs : List Loc} {cells slots : Nat} {Q : State → Prop}
variable {cc : ByteArray} {nL pc : Nat} {ls : Array Slot} {rest : List Value} {Ts : List Cond} {own : String} {A A1 : Nat → Prop} {wd : va_W} {G : hG}
/-- another word for the int on top -/
theorem hx_ei {x y : Int32} (h : x = y) (k : W p l e R s m args below meth c H locs cells slots Q (F0 m pc ls (.int y :: rest))) : W p l e R s m args below meth c H locs cells slots Q (F0 m pc ls (.int x :: rest)) := h ▸ k
theorem hx_el {x y : Int64} (h : x = y) (k : W p l e R s m args below meth c H locs cells slots Q (F0 m pc ls (.long y :: rest))) : W p l e R s m args below meth c H locs cells slots Q (F0 m pc ls (.long x :: rest)) := h ▸ k
theorem hx_eq {x y : Option Nat} (h : x = y) (k : W p l e R s m args below meth c H locs cells slots Q (F0 m pc ls (va_rf y :: rest))) : W p l e R s m args below meth c H locs cells slots Q (F0 m pc ls (va_rf x :: rest)) := h ▸ k
/-- the same world in other words -/
theorem hH.to {wd' : va_W} (X : hH G A H0 s wd H locs) (h : wd = wd') : hH G A H0 s wd' H locs := h ▸ X
theorem hx_getL (S : CallFix p m c cc nL s args Ts own) (X : hH G A H0 s wd H locs) {C : String} {T : u_T} {N ci index a : Nat} (q0 : Nat) {fs : List Value} (he : wd[q0]? = some (a, .inr (ci, fs))) (hc : vwCl[ci]? = some (C, T, N)) (hin : ∀ w ∈ u_ws C T N, w ∈ Ts) (k : Nat) (hk : k < N) (hlink : Cond.fieldLink own index (T k).1 (T k).2.1 (T k).2.2.1 ∈ Ts) {v : Value} (hv : fs[k]? = some v) (hdg : decode cc pc = .ok (.getfield index, 3))
    (kk : W p l e R s m args below meth c H locs cells slots Q (F0 m (pc + 3) ls (v :: rest))) : W p l e R s m args below meth c H locs cells slots Q (F0 m pc ls (.ref a :: rest)) :=
  va_get (D := G.1) (cl := vwCl) (tys := hTY G) S.1 S.2.1 S.2.2.2.2 hin S.2.2.2.1 X.1 X.2.1 q0 he hc k hk (S.2.2.2.2 _ hlink) (fun _ h9 => h9) hv hdg kk
theorem hx_putL (S : CallFix p m c cc nL s args Ts own) (X : hH G A H0 s wd H locs) {C : String} {T : u_T} {N ci index a : Nat} {ty0 : Nat → FieldType} (hty : ∀ k, k < N → parseFieldDescriptor (T k).2.2.1 = some (ty0 k)) (hnm : ∀ a, a < N → ∀ b, b < N → a ≠ b → (T a).2.1 ≠ (T b).2.1) (q0 : Nat) {fs : List Value} (he : wd[q0]? = some (a, .inr (ci, fs))) (hc : vwCl[ci]? = some (C, T, N)) (hin : ∀ w ∈ u_ws C T N, w ∈ Ts) (k : Nat) (hk : k < N) (hlink : Cond.fieldLink own index (T k).1 (T k).2.1 (T k).2.2.1 ∈ Ts) (hfin : (T k).2.2.2 = false) {v : Value} (hn : narrow (ty0 k) v = v) (hfit : fits (ty0 k) v = true) (hl : k < fs.length) (hdg : decode cc pc = .ok (.putfield index, 3))
    {wd' : va_W} (hw : wd.set q0 (a, .inr (ci, fs.set k v)) = wd') (kk : ∀ (H1 : Heap) (locs1 : List Loc), hH G A H0 s wd' H1 locs1 → W p l e R s m args below meth c H1 locs1 cells slots Q (F0 m (pc + 3) ls rest)) : W p l e R s m args below meth c H locs cells slots Q (F0 m pc ls (v :: .ref a :: rest)) := by
  subst hw
  exact va_put (D := G.1) (cl := vwCl) (tys := hTY G) S.1 S.2.1 S.2.2.2.2 hin ty0 hty hnm S.2.2.2.1 X.1 X.2.1 X.2.2.1 X.2.2.2.1 q0 he hc k hk (S.2.2.2.2 _ hlink) (fun _ h9 => h9) hfin (hty k hk) hn hfit hl hdg (fun H1 locs1 hP hD hS => kk H1 locs1 ⟨X.1, hP, hD, hS, X.2.2.2.2⟩)
theorem hx_putFL (S : CallFix p m c cc nL s args Ts own) (X : hH G A H0 s wd H locs) {C : String} {T : u_T} {N ci index a : Nat} {ty0 : Nat → FieldType} (hty : ∀ k, k < N → parseFieldDescriptor (T k).2.2.1 = some (ty0 k)) (hnm : ∀ a, a < N → ∀ b, b < N → a ≠ b → (T a).2.1 ≠ (T b).2.1) (q0 : Nat) {fs : List Value} (he : wd[q0]? = some (a, .inr (ci, fs))) (hc : vwCl[ci]? = some (C, T, N)) (hin : ∀ w ∈ u_ws C T N, w ∈ Ts) (k : Nat) (hk : k < N) (hlink : Cond.fieldLink own index (T k).1 (T k).2.1 (T k).2.2.1 ∈ Ts) (hfin : (T k).2.2.2 = true) (hin2 : meth.name = "<init>") (hcls : (T k).1 = own) {v : Value} (hn : narrow (ty0 k) v = v) (hfit : fits (ty0 k) v = true) (hl : k < fs.length) (hdg : decode cc pc = .ok (.putfield index, 3))
    {wd' : va_W} (hw : wd.set q0 (a, .inr (ci, fs.set k v)) = wd') (kk : ∀ (H1 : Heap) (locs1 : List Loc), hH G A H0 s wd' H1 locs1 → W p l e R s m args below meth c H1 locs1 cells slots Q (F0 m (pc + 3) ls rest)) : W p l e R s m args below meth c H locs cells slots Q (F0 m pc ls (v :: .ref a :: rest)) := by
  subst hw
  exact va_putF (D := G.1) (cl := vwCl) (tys := hTY G) S.1 S.2.1 S.2.2.2.2 hin ty0 hty hnm S.2.2.2.1 X.1 X.2.1 X.2.2.1 X.2.2.2.1 q0 he hc k hk (S.2.2.2.2 _ hlink) (fun _ h9 => h9) hfin hin2 hcls (hty k hk) hn hfit hl hdg (fun H1 locs1 hP hD hS => kk H1 locs1 ⟨X.1, hP, hD, hS, X.2.2.2.2⟩)
theorem hx_iald (S : CallFix p m c cc nL s args Ts own) (X : hH G A H0 s wd H locs) {a : Nat} (q0 : Nat) {n : Nat} {f : Nat → Int32} (ha : wd[q0]? = some (a, hAI G n f)) {i : Int32} (hin : vp_in i n) {x : Int32} (hx : f i.toNatClampNeg = x) (hdg : decode cc pc = .ok (.iaload, 1))
    (kk : W p l e R s m args below meth c H locs cells slots Q (F0 m (pc + 1) ls (.int x :: rest))) : W p l e R s m args below meth c H locs cells slots Q (F0 m pc ls (.int i :: .ref a :: rest)) :=
  va_iald (D := G.1) (cl := vwCl) (tys := hTY G) S.1 S.2.1 X.1 X.2.1 q0 0 ha rfl hin hdg (hx ▸ kk)
theorem hx_iast (S : CallFix p m c cc nL s args Ts own) (X : hH G A H0 s wd H locs) {a : Nat} (q0 : Nat) {n : Nat} {f : Nat → Int32} (ha : wd[q0]? = some (a, hAI G n f)) {i : Int32} (j : Nat) (hj : i.toNatClampNeg = j) (hin : vp_in i n) {x : Int32} (hdg : decode cc pc = .ok (.iastore, 1))
    {wd' : va_W} (hw : wd.set q0 (a, hAI G n (upd f j x)) = wd') (kk : ∀ (H1 : Heap) (locs1 : List Loc), hH G A H0 s wd' H1 locs1 → W p l e R s m args below meth c H1 locs1 cells slots Q (F0 m (pc + 1) ls rest)) : W p l e R s m args below meth c H locs cells slots Q (F0 m pc ls (.int x :: .int i :: .ref a :: rest)) := by
  subst hw
  subst hj
  exact va_iast (D := G.1) (cl := vwCl) (tys := hTY G) S.1 S.2.1 X.1 X.2.1 X.2.2.1 X.2.2.2.1 q0 0 ha rfl hin hdg (fun H1 locs1 hP hD hS => kk H1 locs1 ⟨X.1, hP, hD, hS, X.2.2.2.2⟩)
abbrev hAZ (G : hG) (n : Nat) (f : Nat → Int32) : va_E := .inl (G.2 1, n, .inl f)
theorem hx_zald (S : CallFix p m c cc nL s args Ts own) (X : hH G A H0 s wd H locs) {a : Nat} (q0 : Nat) {n : Nat} {f : Nat → Int32} (ha : wd[q0]? = some (a, hAZ G n f)) {i : Int32} (hin : vp_in i n) {x : Int32} (hx : f i.toNatClampNeg = x) (hdg : decode cc pc = .ok (.baload, 1))
    (kk : W p l e R s m args below meth c H locs cells slots Q (F0 m (pc + 1) ls (.int x :: rest))) : W p l e R s m args below meth c H locs cells slots Q (F0 m pc ls (.int i :: .ref a :: rest)) :=
  va_zald (D := G.1) (cl := vwCl) (tys := hTY G) S.1 S.2.1 X.1 X.2.1 q0 1 ha rfl hin hdg (hx ▸ kk)
theorem hx_zast (S : CallFix p m c cc nL s args Ts own) (X : hH G A H0 s wd H locs) {a : Nat} (q0 : Nat) {n : Nat} {f : Nat → Int32} (ha : wd[q0]? = some (a, hAZ G n f)) {i : Int32} (j : Nat) (hj : i.toNatClampNeg = j) (hin : vp_in i n) {x : Int32} (hz : vp_nar .boolean x = x) (hdg : decode cc pc = .ok (.bastore, 1))
    {wd' : va_W} (hw : wd.set q0 (a, hAZ G n (upd f j x)) = wd') (kk : ∀ (H1 : Heap) (locs1 : List Loc), hH G A H0 s wd' H1 locs1 → W p l e R s m args below meth c H1 locs1 cells slots Q (F0 m (pc + 1) ls rest)) : W p l e R s m args below meth c H locs cells slots Q (F0 m pc ls (.int x :: .int i :: .ref a :: rest)) := by
  subst hw
  subst hj
  refine va_zast (D := G.1) (cl := vwCl) (tys := hTY G) S.1 S.2.1 X.1 X.2.1 X.2.2.1 X.2.2.2.1 q0 1 ha rfl hin hdg (fun H1 locs1 hP hD hS => ?_)
  rw [hz] at hP hD
  exact kk H1 locs1 ⟨X.1, hP, hD, hS, X.2.2.2.2⟩
theorem hx_aald (S : CallFix p m c cc nL s args Ts own) (X : hH G A H0 s wd H locs) {a : Nat} (q0 t0 : Nat) {cA : ClassId} {ty : FieldType} (ht : (hTY G)[t0]? = some (cA, ty)) (hty : ty.isReference = true) {n : Nat} {f : Nat → Option Nat} (ha : wd[q0]? = some (a, .inl (cA, n, .inr (.inr (.inr (.inr f)))))) {i : Int32} (hin : vp_in i n) {x : Value} (hx : va_rf (f i.toNatClampNeg) = x) (hdg : decode cc pc = .ok (.aaload, 1))
    (kk : W p l e R s m args below meth c H locs cells slots Q (F0 m (pc + 1) ls (x :: rest))) : W p l e R s m args below meth c H locs cells slots Q (F0 m pc ls (.int i :: .ref a :: rest)) := by
  subst hx
  have hlt : i.toNatClampNeg < n := Nat.not_le.mp fun q => hin (Or.inr q)
  exact W.aald (v := va_rf (f i.toNatClampNeg)) (ty := ty) S.1 S.2.1 (X.2.1 q0 _ ha) ((X.1.2 t0 _ ht).1 n (fun j => va_rf (f j))) hty (fun q => by cases q) (by show ¬ (i < 0 ∨ (arrV _ _ _).slots.size ≤ _); rw [arrV_size]; exact hin) (by show (arrV _ _ _).slots[_]? = _; rw [arrV_read _ _ hlt]) rfl rfl hdg kk
theorem hx_aast (S : CallFix p m c cc nL s args Ts own) (X : hH G A H0 s wd H locs) {a : Nat} (q0 t0 qk ci : Nat) {cA : ClassId} {r : vw_C} {n v : Nat} {vs : List Value} {f : Nat → Option Nat} (ha : wd[q0]? = some (a, .inl (cA, n, .inr (.inr (.inr (.inr f)))))) (ht : (hTY G)[t0]? = some (cA, .object r.1)) (hv : wd[qk]? = some (v, .inr (ci, vs))) (hc : vwCl[ci]? = some r) {i : Int32} (j : Nat) (hj : i.toNatClampNeg = j) (hin : vp_in i n) (hdg : decode cc pc = .ok (.aastore, 1))
    {wd' : va_W} (hw : wd.set q0 (a, .inl (cA, n, .inr (.inr (.inr (.inr (va_up f j (some v))))))) = wd') (kk : ∀ (H1 : Heap) (locs1 : List Loc), hH G A H0 s wd' H1 locs1 → W p l e R s m args below meth c H1 locs1 cells slots Q (F0 m (pc + 1) ls rest)) : W p l e R s m args below meth c H locs cells slots Q (F0 m pc ls (.ref v :: .int i :: .ref a :: rest)) := by
  subst hw
  subst hj
  exact va_astq (D := G.1) (cl := vwCl) (tys := hTY G) S.1 S.2.1 X.1 X.2.1 X.2.2.1 X.2.2.2.1 q0 t0 qk ci ha ht hv hc hin hdg (fun H1 locs1 hP hD hS => kk H1 locs1 ⟨X.1, hP, hD, hS, X.2.2.2.2⟩)
theorem hx_aastN (S : CallFix p m c cc nL s args Ts own) (X : hH G A H0 s wd H locs) {a : Nat} (q0 t0 : Nat) {cA : ClassId} {C : String} {n : Nat} {f : Nat → Option Nat} (ha : wd[q0]? = some (a, .inl (cA, n, .inr (.inr (.inr (.inr f)))))) (ht : (hTY G)[t0]? = some (cA, .object C)) {i : Int32} (j : Nat) (hj : i.toNatClampNeg = j) (hin : vp_in i n) (hdg : decode cc pc = .ok (.aastore, 1))
    {wd' : va_W} (hw : wd.set q0 (a, .inl (cA, n, .inr (.inr (.inr (.inr (va_up f j none)))))) = wd') (kk : ∀ (H1 : Heap) (locs1 : List Loc), hH G A H0 s wd' H1 locs1 → W p l e R s m args below meth c H1 locs1 cells slots Q (F0 m (pc + 1) ls rest)) : W p l e R s m args below meth c H locs cells slots Q (F0 m pc ls (.null :: .int i :: .ref a :: rest)) := by
  subst hw
  subst hj
  exact va_astqN (D := G.1) (cl := vwCl) (tys := hTY G) S.1 S.2.1 X.1 X.2.1 X.2.2.1 X.2.2.2.1 q0 t0 ha ht hin hdg (fun H1 locs1 hP hD hS => kk H1 locs1 ⟨X.1, hP, hD, hS, X.2.2.2.2⟩)
theorem va_RA_one {c1 c2 : ClassId} {ty : FieldType} (h1 : va_RA s c1 ty) (h2 : va_RA s c2 ty) : c1 = c2 := by
  cases ty with
  | object C =>
    obtain ⟨_, _, _, _, _, h3⟩ := h1
    obtain ⟨_, _, _, _, _, h4⟩ := h2
    exact Option.some.inj (h3.symm.trans h4)
  | _ => exact Option.some.inj (Eq.trans (Eq.symm h1) h2)
theorem hTY_one (X : hH G A H0 s wd H locs) (t0 : Nat) {c1 cA : ClassId} {ty : FieldType} (ht : (hTY G)[t0]? = some (cA, ty)) (hK : va_K G.1 vwCl (hTY G ++ [(c1, ty)]) s) : c1 = cA :=
  va_RA_one (hK.2 (hTY G).length (c1, ty) (by simp)).2 (X.1.2 t0 _ ht).2
theorem hx_newa (S : CallFix p m c cc nL s args Ts own) (X : hH G A H0 s wd H locs) {atype : ArrayType} (t0 : Nat) {cA : ClassId} {ty : FieldType} (hty : newarray.typeOf atype = ty) (ht : (hTY G)[t0]? = some (cA, ty)) (harr : Cond.arrayClass ty ∈ Ts) {n : Int32} {N' : Nat} {a0 : vp_A} (ha : ∀ cA : ClassId, vp_cell cA a0 = arrV cA N' (fun _ => defaultValue ty)) (hn : ¬ n < 0) (hN : n.toNatClampNeg = N') (hbytes : N' * componentBytes ty ≤ 536870912) (hcells : cells + 1 ≤ R.cells) (hslots : slots + N' ≤ R.slots) (hdg : decode cc pc = .ok (.newarray atype, 2))
    (kk : ∀ (q : Nat) (H1 : Heap), hH G A H0 s (wd ++ [(q, .inl (cA, a0))]) H1 locs → W p l e R s m args below meth c H1 locs (cells + 1) (slots + N') Q (F0 m (pc + 2) ls (.ref q :: rest))) : W p l e R s m args below meth c H locs cells slots Q (F0 m pc ls (.int n :: rest)) := by
  refine va_newa (D := G.1) (cl := vwCl) (tys := hTY G) S.1 S.2.1 (by rw [hty]; exact S.2.2.2.2 _ harr) hty X.1 X.2.1 X.2.2.1 X.2.2.2.1 X.2.2.2.2 ha hn hN hbytes hcells hslots hdg (fun q c1 H1 hK hP hD hS => ?_)
  have h1 := hTY_one X t0 ht hK
  subst h1
  exact kk q H1 ⟨X.1, hP, hD, hS, X.2.2.2.2⟩
theorem hx_newq (S : CallFix p m c cc nL s args Ts own) (X : hH G A H0 s wd H locs) (t0 : Nat) {cA : ClassId} {C : String} {index : Nat} (ht : (hTY G)[t0]? = some (cA, .object C)) (hclink : Cond.classLink own index C ∈ Ts) (hover : Cond.arrayOver (.object C) ∈ Ts) {n : Int32} {N' : Nat} (hn : ¬ n < 0) (hN : n.toNatClampNeg = N') (hbytes : N' * 4 ≤ 536870912) (hcells : cells + 1 ≤ R.cells) (hslots : slots + N' ≤ R.slots) (hdg : decode cc pc = .ok (.anewarray index, 3))
    (kk : ∀ (q : Nat) (H1 : Heap), hH G A H0 s (wd ++ [(q, .inl (cA, N', .inr (.inr (.inr (.inr (fun _ => none))))))]) H1 locs → W p l e R s m args below meth c H1 locs (cells + 1) (slots + N') Q (F0 m (pc + 3) ls (.ref q :: rest))) : W p l e R s m args below meth c H locs cells slots Q (F0 m pc ls (.int n :: rest)) := by
  refine va_newq (D := G.1) (cl := vwCl) (tys := hTY G) S.1 S.2.1 S.2.2.2.1 (S.2.2.2.2 _ hclink) (va_AO.of (S.2.2.2.2 _ hover)) X.1 X.2.1 X.2.2.1 X.2.2.2.1 X.2.2.2.2 hn hN hbytes hcells hslots hdg (fun q c1 H1 hK hP hD hS => ?_)
  have h1 := hTY_one X t0 ht hK
  subst h1
  exact kk q H1 ⟨X.1, hP, hD, hS, X.2.2.2.2⟩
theorem hx_new (S : CallFix p m c cc nL s args Ts own) (X : hH G A H0 s wd H locs) {C : String} {T : u_T} {N ci index : Nat} {ty : Nat → FieldType} (hty : ∀ k, k < N → parseFieldDescriptor (T k).2.2.1 = some (ty k)) (hc : vwCl[ci]? = some (C, T, N)) (hin : ∀ w ∈ u_ws C T N, w ∈ Ts) (hcl : Cond.classLink own index C ∈ Ts) (hinst : Cond.instantiable C N ∈ Ts) (hini : Cond.initialized C ∈ Ts) {fs : List Value} (hfs : ∀ j, j < N → defaultValue (ty j) = vp_V fs j) (hcells : cells + 1 ≤ R.cells) (hslots : slots + N ≤ R.slots) (hdg : decode cc pc = .ok (.new index, 3))
    (kk : ∀ (q : Nat) (H1 : Heap), hH G A H0 s (wd ++ [(q, .inr (ci, fs))]) H1 locs → W p l e R s m args below meth c H1 locs (cells + 1) (slots + N) Q (F0 m (pc + 3) ls (.ref q :: rest))) : W p l e R s m args below meth c H locs cells slots Q (F0 m pc ls rest) :=
  va_new (D := G.1) (cl := vwCl) (tys := hTY G) S.1 S.2.1 S.2.2.2.2 hin ty hty S.2.2.2.1 (S.2.2.2.2 _ hcl) (S.2.2.2.2 _ hinst) (S.2.2.2.2 _ hini) X.1 X.2.1 X.2.2.1 X.2.2.2.1 X.2.2.2.2 hc hfs hcells hslots hdg (fun q H1 hP hD hS => kk q H1 ⟨X.1, hP, hD, hS, X.2.2.2.2⟩)
/-- behind a call the whole world comes back -/
theorem hx_back (X : hH G A H0 s wd H locs) : (∀ q : Nat, q < H.size → va_A wd H.size q → A q) ∧ (∀ q, va_A wd H.size q → A q) := by
  have h : ∀ q, va_A wd H.size q → A q := fun q h => by
    rcases h with ⟨k, e, h⟩ | h
    · exact X.2.2.1.2 k _ h
    · exact X.2.2.2.2 q (Nat.le_trans X.2.2.2.1.1 h)
  exact ⟨fun q _ => h q, h⟩
theorem hx_weaken {B : Nat → Prop} (h : ∀ q, A1 q → B q) (hD : va_D A1 wd) : va_D B wd := hD.weaken (fun _ q _ hq => h q.1 hq)
abbrev hRecv (s : State) (H : Heap) (b : Nat) (C : String) : Prop := ∃ cell : Cell, H[b]? = some cell ∧ cell.vm.isStatics = false ∧ s.vm.findClass C = some cell.cls
theorem hx_recvL (X : hH G A H0 s wd H locs) {b ci q0 : Nat} {C : String} {T : u_T} {N : Nat} {fs : List Value} (hc : vwCl[ci]? = some (C, T, N)) (he : wd[q0]? = some (b, .inr (ci, fs))) : hRecv s H b C := va_recv X.1 X.2.1 hc he
theorem hx_blind {av : List Value} {sz : Nat} : FrameBlind (hPre G wd av sz) := fun a U g mk q => by
  obtain ⟨q0, q1, qP, qK, qD⟩ := q
  exact ⟨q0, q1, qP, va_K.moved (u := U) (U := U.calling g mk a) (Vm.Alike.refl U.vm) qK, qD⟩
theorem hx_pre (X : hH G A H0 s wd H locs) {av : List Value} (U : State) (hU : U.heap = H) (hW : s.WarmedH U.vm) : hPre G wd av H.size av.toArray U := ⟨rfl, by rw [hU], by rw [hU]; exact X.2.1, va_K.moved hW.alike X.1, hx_weaken (fun _ _ => trivial) X.2.2.1⟩
variable {y : MethodName} {bytes : ByteArray} {maxL index b : Nat} {ret : Option FieldType} {ws ws' : List Cond} {rm : Room} {C : String} {As st0 : List Value}
abbrev hDesc (y : MethodName) (C : String) (n : Nat) : Prop := y.cls = C ∧ y.cls ≠ "java/lang/invoke/MethodHandle" ∧ y.cls ≠ "java/lang/invoke/VarHandle" ∧ (parseMethodDescriptor y.desc).map (fun d => d.parameters.length) = some n
abbrev hFit (R rm : Room) (maxL : Nat) : Prop := rm.frames + 1 ≤ R.frames ∧ 8 + (maxL + 11) + rm.locals ≤ R.locals
theorem hx_Vi {post : Int32 → va_W → Prop} (S : CallFix p m c cc nL s args Ts own) (X : hH G A H0 s wd H locs) (hM : hMi l G y ws rm wd (.ref b :: As) post) (hG : GoodIn Ts (wsV own index C y ws)) (hw : ws = Cond.code y bytes maxL ret :: ws') {n : Nat} (hd : hDesc y C n) (hn : As.length = n) (hR : hFit R rm maxL) (hrc : hRecv s H b C) (hls : ls.size = nL) (hst : st0 = As.reverse ++ .ref b :: rest) (hW : (rest.map fun v => v.category).sum ≤ 8) (hdg : decode cc pc = .ok (.invokevirtual index, 3)) (hf : cells + rm.cells ≤ R.cells ∧ slots + rm.slots ≤ R.slots)
    (kk : ∀ (r : Int32) (wd1 : va_W) (H1 : Heap) (locs1 : List Loc), post r wd1 → hH G A H0 s wd1 H1 locs1 → W p l e R s m args below meth c H1 locs1 (cells + rm.cells) (slots + rm.slots) Q (F0 m (pc + 3) ls (.int r :: rest))) : W p l e R s m args below meth c H locs cells slots Q (F0 m pc ls st0) := by
  subst hst
  refine va_calli (va_runV (rest := rest) S (hM H.size) (cwV n S.2.2.2.2 hG hw rfl rfl hd hR) ⟨hx_blind, hrc, fun U hU hW1 => hx_pre X U hU hW1⟩ rfl hn hls rfl (lv_room hW) hdg hf) X.2.2.2.1 (hx_back X).1 (hx_back X).2 (fun r u t H1 locs1 ht hvm hw hB hz1 hk1 hS => ?_)
  obtain ⟨hP1, hK1, hD1⟩ := hB
  rw [ht] at hP1
  exact kk r u H1 locs1 hw ⟨X.1, hP1, hx_weaken (hx_back X).2 hD1, hS, X.2.2.2.2⟩
theorem hx_Vv {post : va_W → Prop} (S : CallFix p m c cc nL s args Ts own) (X : hH G A H0 s wd H locs) (hM : hMv l G y ws rm wd (.ref b :: As) post) (hG : GoodIn Ts (wsV own index C y ws)) (hw : ws = Cond.code y bytes maxL ret :: ws') {n : Nat} (hd : hDesc y C n) (hn : As.length = n) (hR : hFit R rm maxL) (hrc : hRecv s H b C) (hls : ls.size = nL) (hst : st0 = As.reverse ++ .ref b :: rest) (hW : (rest.map fun v => v.category).sum ≤ 8) (hdg : decode cc pc = .ok (.invokevirtual index, 3)) (hf : cells + rm.cells ≤ R.cells ∧ slots + rm.slots ≤ R.slots)
    (kk : ∀ (wd1 : va_W) (H1 : Heap) (locs1 : List Loc), post wd1 → hH G A H0 s wd1 H1 locs1 → W p l e R s m args below meth c H1 locs1 (cells + rm.cells) (slots + rm.slots) Q (F0 m (pc + 3) ls rest)) : W p l e R s m args below meth c H locs cells slots Q (F0 m pc ls st0) := by
  subst hst
  refine va_callv (va_runV (rest := rest) S (hM H.size) (cwV n S.2.2.2.2 hG hw rfl rfl hd hR) ⟨hx_blind, hrc, fun U hU hW1 => hx_pre X U hU hW1⟩ rfl hn hls rfl (lv_room hW) hdg hf) X.2.2.2.1 (hx_back X).1 (hx_back X).2 (fun u t H1 locs1 ht hvm hw hB hz1 hk1 hS => ?_)
  obtain ⟨hP1, hK1, hD1⟩ := hB
  rw [ht] at hP1
  exact kk u H1 locs1 hw ⟨X.1, hP1, hx_weaken (hx_back X).2 hD1, hS, X.2.2.2.2⟩
theorem hx_Vq {post : Option Nat → va_W → Prop} (S : CallFix p m c cc nL s args Ts own) (X : hH G A H0 s wd H locs) (hM : hMq l G y ws rm wd (.ref b :: As) post) (hG : GoodIn Ts (wsV own index C y ws)) (hw : ws = Cond.code y bytes maxL ret :: ws') {n : Nat} (hd : hDesc y C n) (hn : As.length = n) (hR : hFit R rm maxL) (hrc : hRecv s H b C) (hls : ls.size = nL) (hst : st0 = As.reverse ++ .ref b :: rest) (hW : (rest.map fun v => v.category).sum ≤ 8) (hdg : decode cc pc = .ok (.invokevirtual index, 3)) (hf : cells + rm.cells ≤ R.cells ∧ slots + rm.slots ≤ R.slots)
    (kk : ∀ (r : Option Nat) (wd1 : va_W) (H1 : Heap) (locs1 : List Loc), post r wd1 → hH G A H0 s wd1 H1 locs1 → W p l e R s m args below meth c H1 locs1 (cells + rm.cells) (slots + rm.slots) Q (F0 m (pc + 3) ls (va_rf r :: rest))) : W p l e R s m args below meth c H locs cells slots Q (F0 m pc ls st0) := by
  subst hst
  refine va_callq (va_runV (rest := rest) S (hM H.size) (cwV n S.2.2.2.2 hG hw rfl rfl hd hR) ⟨hx_blind, hrc, fun U hU hW1 => hx_pre X U hU hW1⟩ rfl hn hls rfl (lv_room hW) hdg hf) X.2.2.2.1 (hx_back X).1 (hx_back X).2 (fun r u t H1 locs1 ht hvm hw hB hz1 hk1 hS => ?_)
  obtain ⟨hP1, hK1, hD1⟩ := hB
  rw [ht] at hP1
  exact kk r u H1 locs1 hw ⟨X.1, hP1, hx_weaken (hx_back X).2 hD1, hS, X.2.2.2.2⟩
theorem hx_Si {post : Int32 → va_W → Prop} (S : CallFix p m c cc nL s args Ts own) (X : hH G A H0 s wd H locs) (hM : hMi l G y ws rm wd As post) (hG : GoodIn Ts (va_wsS own index y ws)) (hw : ws = Cond.code y bytes maxL ret :: ws') {n : Nat} (hd : y.cls ≠ "java/lang/invoke/MethodHandle" ∧ y.cls ≠ "java/lang/invoke/VarHandle" ∧ (parseMethodDescriptor y.desc).map (fun d => d.parameters.length) = some n) (hn : As.length = n) (hR : hFit R rm maxL) (hls : ls.size = nL) (hst : st0 = As.reverse ++ rest) (hW : (rest.map fun v => v.category).sum ≤ 8) (hdg : decode cc pc = .ok (.invokestatic index, 3)) (hf : cells + rm.cells ≤ R.cells ∧ slots + rm.slots ≤ R.slots)
    (kk : ∀ (r : Int32) (wd1 : va_W) (H1 : Heap) (locs1 : List Loc), post r wd1 → hH G A H0 s wd1 H1 locs1 → W p l e R s m args below meth c H1 locs1 (cells + rm.cells) (slots + rm.slots) Q (F0 m (pc + 3) ls (.int r :: rest))) : W p l e R s m args below meth c H locs cells slots Q (F0 m pc ls st0) := by
  subst hst
  refine va_calli (va_runS (rest := rest) S (hM H.size) (va_cwS n S.2.2.2.2 hG hw rfl rfl hd hR) ⟨hx_blind, fun U hU hW1 => hx_pre X U hU hW1⟩ rfl hn hls rfl (lv_room hW) hdg hf) X.2.2.2.1 (hx_back X).1 (hx_back X).2 (fun r u t H1 locs1 ht hvm hw hB hz1 hk1 hS => ?_)
  obtain ⟨hP1, hK1, hD1⟩ := hB
  rw [ht] at hP1
  exact kk r u H1 locs1 hw ⟨X.1, hP1, hx_weaken (hx_back X).2 hD1, hS, X.2.2.2.2⟩
theorem hx_Iv {post : va_W → Prop} (S : CallFix p m c cc nL s args Ts own) (X : hH G A H0 s wd H locs) (hM : hMv l G y ws rm wd (.ref b :: As) post) (hG : GoodIn Ts ws) (hw : ws = Cond.code y bytes maxL none :: ws') (hini : Cond.initialized y.cls ∈ Ts) (hl : Cond.methodLink own index y ∈ Ts) (hin : Cond.instanceMethod y ∈ Ts) (hy1 : y.name = "<init>") {n : Nat} (hd : y.cls ≠ "java/lang/invoke/MethodHandle" ∧ y.cls ≠ "java/lang/invoke/VarHandle" ∧ (parseMethodDescriptor y.desc).map (fun d => d.parameters.length) = some n) (hn : As.length = n) (hR : hFit R rm maxL) (hls : ls.size = nL) (hst : st0 = As.reverse ++ .ref b :: rest) (hW : (rest.map fun v => v.category).sum ≤ 8) (hdg : decode cc pc = .ok (.invokespecial index, 3)) (hf : cells + rm.cells ≤ R.cells ∧ slots + rm.slots ≤ R.slots)
    (kk : ∀ (wd1 : va_W) (H1 : Heap) (locs1 : List Loc), post wd1 → hH G A H0 s wd1 H1 locs1 → W p l e R s m args below meth c H1 locs1 (cells + rm.cells) (slots + rm.slots) Q (F0 m (pc + 3) ls rest)) : W p l e R s m args below meth c H locs cells slots Q (F0 m pc ls st0) := by
  subst hst
  refine va_callv (va_runI (rest := rest) S (hM H.size) (cwI n S.2.2.2.2 hG hw rfl rfl (S.2.2.2.2 _ hini) (S.2.2.2.2 _ hl) (S.2.2.2.2 _ hin) hy1 hd hR) ⟨hx_blind, fun U hU hW1 => hx_pre X U hU hW1⟩ rfl hn hls rfl (lv_room hW) hdg hf) X.2.2.2.1 (hx_back X).1 (hx_back X).2 (fun u t H1 locs1 ht hvm hw hB hz1 hk1 hS => ?_)
  obtain ⟨hP1, hK1, hD1⟩ := hB
  rw [ht] at hP1
  exact kk u H1 locs1 hw ⟨X.1, hP1, hx_weaken (hx_back X).2 hD1, hS, X.2.2.2.2⟩
/-- the ends -/
theorem hx_iret {post : Int32 → va_W → Prop} {wd0 : va_W} {mc ms : Nat} {v : Int32} (S : CallFix p m c cc nL s args Ts own) (X : hH G (va_A wd0 s.heap.size) s.heap s wd H locs) (hr : meth.sig.returnType = some .int) (hlk : meth.locks = false) (h1 : cells ≤ mc) (h2 : slots ≤ ms) (hp : post v wd) (hdg : decode cc pc = .ok (.ireturn, 1)) : W p l e R s m args below meth c H locs cells slots (MQ below (va_Qi post (hB G (va_A wd0 s.heap.size)) (va_A wd0 s.heap.size)) args s mc ms (va_A wd0 s.heap.size)) (F0 m pc ls [.int v]) :=
  W.widen h1 h2 (W.iret S.1 S.2.1 hr (fun t ht hW => ⟨⟨v, wd, rfl, hp, by rw [ht]; exact X.2.1, va_K.moved hW.alike X.1, X.2.2.1⟩, X.2.2.2.1.F ht⟩) X.2.2.2.1.2.2 hdg hlk)
theorem hx_zret {post : Int32 → va_W → Prop} {wd0 : va_W} {mc ms : Nat} {v : Int32} (S : CallFix p m c cc nL s args Ts own) (X : hH G (va_A wd0 s.heap.size) s.heap s wd H locs) (hr : meth.sig.returnType = some .boolean) (hlk : meth.locks = false) (h1 : cells ≤ mc) (h2 : slots ≤ ms) (hn : narrow .boolean (.int v) = .int v) (hp : post v wd) (hdg : decode cc pc = .ok (.ireturn, 1)) : W p l e R s m args below meth c H locs cells slots (MQ below (va_Qi post (hB G (va_A wd0 s.heap.size)) (va_A wd0 s.heap.size)) args s mc ms (va_A wd0 s.heap.size)) (F0 m pc ls [.int v]) :=
  W.widen h1 h2 (W.zret S.1 S.2.1 hr hn (fun t ht hW => ⟨⟨v, wd, rfl, hp, by rw [ht]; exact X.2.1, va_K.moved hW.alike X.1, X.2.2.1⟩, X.2.2.2.1.F ht⟩) X.2.2.2.1.2.2 hdg hlk)
theorem hx_vret {post : va_W → Prop} {wd0 : va_W} {mc ms : Nat} (S : CallFix p m c cc nL s args Ts own) (X : hH G (va_A wd0 s.heap.size) s.heap s wd H locs) (hr : meth.sig.returnType = none) (hlk : meth.locks = false) (h1 : cells ≤ mc) (h2 : slots ≤ ms) (hp : post wd) (hdg : decode cc pc = .ok (.return_, 1)) : W p l e R s m args below meth c H locs cells slots (MQ below (va_Qv post (hB G (va_A wd0 s.heap.size)) (va_A wd0 s.heap.size)) args s mc ms (va_A wd0 s.heap.size)) (F0 m pc ls []) :=
  W.widen h1 h2 (W.vret S.1 S.2.1 hr (fun t ht hW => ⟨⟨wd, rfl, hp, by rw [ht]; exact X.2.1, va_K.moved hW.alike X.1, X.2.2.1⟩, X.2.2.2.1.F ht⟩) X.2.2.2.1.2.2 hdg hlk)
theorem hx_qret {post : Option Nat → va_W → Prop} {wd0 : va_W} {mc ms : Nat} {C : String} (r : Option Nat) {v : Value} (hv : v = va_rf r) (S : CallFix p m c cc nL s args Ts own) (X : hH G (va_A wd0 s.heap.size) s.heap s wd H locs) (hr : meth.sig.returnType = some (.object C)) (hlk : meth.locks = false) (h1 : cells ≤ mc) (h2 : slots ≤ ms) (hp : post r wd) (hdg : decode cc pc = .ok (.areturn, 1)) : W p l e R s m args below meth c H locs cells slots (MQ below (va_Qq post (hB G (va_A wd0 s.heap.size)) (va_A wd0 s.heap.size)) args s mc ms (va_A wd0 s.heap.size)) (F0 m pc ls [v]) := by
  subst hv
  exact W.widen h1 h2 (W.aret S.1 S.2.1 hr (Or.inl ⟨_, rfl⟩) (by cases r with | none => exact Or.inl rfl | some a => exact Or.inr ⟨a, rfl⟩) (fun t ht hW => ⟨⟨r, wd, rfl, hp, by rw [ht]; exact X.2.1, va_K.moved hW.alike X.1, X.2.2.1⟩, X.2.2.2.1.F ht⟩) X.2.2.2.1.2.2 hdg hlk)
end HX
end
section
/-! THE REFERENCE'S STATE: its numbers and arrays as one function; its cells -/
abbrev Sg : Type := Nat → Nat → Int32
def mS (σ : Sg) (k j : Nat) (x : Int32) : Sg := fun k' => if k' = k then upd (σ k') j x else σ k'
theorem mS_eq (σ : Sg) (k j : Nat) (x : Int32) : mS σ k j x k j = x := by simp [mS, upd]
theorem mS_ne (σ : Sg) (k : Nat) {j i : Nat} (x : Int32) (h : i ≠ j) : mS σ k j x k i = σ k i := by simp [mS, upd, h]
theorem mS_nk (σ : Sg) {k k' : Nat} (j i : Nat) (x : Int32) (h : k' ≠ k) : mS σ k j x k' i = σ k' i := by simp [mS, h]
theorem mS_at (σ : Sg) (k j : Nat) (x : Int32) (k' i : Nat) : mS σ k j x k' i = if k' = k ∧ i = j then x else σ k' i := by
  by_cases h : k' = k <;> by_cases h2 : i = j <;> simp [mS, upd, h, h2]
def mW (G : hG) (ad : Nat → Nat) (σ : Sg) : va_W := [(ad 0, .inr (7, [.int (σ 0 0), .ref (ad 1), .ref (ad 2), .ref (ad 3), .ref (ad 4), .ref (ad 5), .int (σ 0 1), .ref (ad 6), .ref (ad 7), .ref (ad 8), .ref (ad 9), .ref (ad 10)])), (ad 1, hAI G 972 (σ 1)), (ad 2, hAI G 4 (σ 2)), (ad 3, hAI G 32 (σ 3)), (ad 4, hAI G 32 (σ 4)), (ad 5, hAI G 32 (σ 5)), (ad 6, hAZ G 24 (σ 6)), (ad 7, hAI G 24 (σ 7)), (ad 8, hAI G 24 (σ 8)), (ad 9, hAI G 24 (σ 9)), (ad 10, hAI G 1536 (σ 10))]
theorem mW_0 (G : hG) (ad : Nat → Nat) (σ : Sg) : (mW G ad σ)[0]? = some (ad 0, .inr (7, [.int (σ 0 0), .ref (ad 1), .ref (ad 2), .ref (ad 3), .ref (ad 4), .ref (ad 5), .int (σ 0 1), .ref (ad 6), .ref (ad 7), .ref (ad 8), .ref (ad 9), .ref (ad 10)])) := rfl
theorem mW_1 (G : hG) (ad : Nat → Nat) (σ : Sg) : (mW G ad σ)[1]? = some (ad 1, hAI G 972 (σ 1)) := rfl
theorem mW_s1 (G : hG) (ad : Nat → Nat) (σ : Sg) (j : Nat) (x : Int32) : (mW G ad σ).set 1 (ad 1, hAI G 972 (upd (σ 1) j x)) = mW G ad (mS σ 1 j x) := rfl
theorem mW_2 (G : hG) (ad : Nat → Nat) (σ : Sg) : (mW G ad σ)[2]? = some (ad 2, hAI G 4 (σ 2)) := rfl
theorem mW_s2 (G : hG) (ad : Nat → Nat) (σ : Sg) (j : Nat) (x : Int32) : (mW G ad σ).set 2 (ad 2, hAI G 4 (upd (σ 2) j x)) = mW G ad (mS σ 2 j x) := rfl
theorem mW_3 (G : hG) (ad : Nat → Nat) (σ : Sg) : (mW G ad σ)[3]? = some (ad 3, hAI G 32 (σ 3)) := rfl
theorem mW_s3 (G : hG) (ad : Nat → Nat) (σ : Sg) (j : Nat) (x : Int32) : (mW G ad σ).set 3 (ad 3, hAI G 32 (upd (σ 3) j x)) = mW G ad (mS σ 3 j x) := rfl
theorem mW_4 (G : hG) (ad : Nat → Nat) (σ : Sg) : (mW G ad σ)[4]? = some (ad 4, hAI G 32 (σ 4)) := rfl
theorem mW_s4 (G : hG) (ad : Nat → Nat) (σ : Sg) (j : Nat) (x : Int32) : (mW G ad σ).set 4 (ad 4, hAI G 32 (upd (σ 4) j x)) = mW G ad (mS σ 4 j x) := rfl
theorem mW_5 (G : hG) (ad : Nat → Nat) (σ : Sg) : (mW G ad σ)[5]? = some (ad 5, hAI G 32 (σ 5)) := rfl
theorem mW_s5 (G : hG) (ad : Nat → Nat) (σ : Sg) (j : Nat) (x : Int32) : (mW G ad σ).set 5 (ad 5, hAI G 32 (upd (σ 5) j x)) = mW G ad (mS σ 5 j x) := rfl
theorem mW_6 (G : hG) (ad : Nat → Nat) (σ : Sg) : (mW G ad σ)[6]? = some (ad 6, hAZ G 24 (σ 6)) := rfl
theorem mW_s6 (G : hG) (ad : Nat → Nat) (σ : Sg) (j : Nat) (x : Int32) : (mW G ad σ).set 6 (ad 6, hAZ G 24 (upd (σ 6) j x)) = mW G ad (mS σ 6 j x) := rfl
theorem mW_7 (G : hG) (ad : Nat → Nat) (σ : Sg) : (mW G ad σ)[7]? = some (ad 7, hAI G 24 (σ 7)) := rfl
theorem mW_s7 (G : hG) (ad : Nat → Nat) (σ : Sg) (j : Nat) (x : Int32) : (mW G ad σ).set 7 (ad 7, hAI G 24 (upd (σ 7) j x)) = mW G ad (mS σ 7 j x) := rfl
theorem mW_8 (G : hG) (ad : Nat → Nat) (σ : Sg) : (mW G ad σ)[8]? = some (ad 8, hAI G 24 (σ 8)) := rfl
theorem mW_s8 (G : hG) (ad : Nat → Nat) (σ : Sg) (j : Nat) (x : Int32) : (mW G ad σ).set 8 (ad 8, hAI G 24 (upd (σ 8) j x)) = mW G ad (mS σ 8 j x) := rfl
theorem mW_9 (G : hG) (ad : Nat → Nat) (σ : Sg) : (mW G ad σ)[9]? = some (ad 9, hAI G 24 (σ 9)) := rfl
theorem mW_s9 (G : hG) (ad : Nat → Nat) (σ : Sg) (j : Nat) (x : Int32) : (mW G ad σ).set 9 (ad 9, hAI G 24 (upd (σ 9) j x)) = mW G ad (mS σ 9 j x) := rfl
theorem mW_10 (G : hG) (ad : Nat → Nat) (σ : Sg) : (mW G ad σ)[10]? = some (ad 10, hAI G 1536 (σ 10)) := rfl
theorem mW_s10 (G : hG) (ad : Nat → Nat) (σ : Sg) (j : Nat) (x : Int32) : (mW G ad σ).set 10 (ad 10, hAI G 1536 (upd (σ 10) j x)) = mW G ad (mS σ 10 j x) := rfl
theorem mW_pc (G : hG) (ad : Nat → Nat) (σ : Sg) (v : Int32) : (mW G ad σ).set 0 (ad 0, .inr (7, ([.int (σ 0 0), .ref (ad 1), .ref (ad 2), .ref (ad 3), .ref (ad 4), .ref (ad 5), .int (σ 0 1), .ref (ad 6), .ref (ad 7), .ref (ad 8), .ref (ad 9), .ref (ad 10)] : List Value).set 0 (.int v))) = mW G ad (mS σ 0 0 v) := rfl
theorem mW_po (G : hG) (ad : Nat → Nat) (σ : Sg) (v : Int32) : (mW G ad σ).set 0 (ad 0, .inr (7, ([.int (σ 0 0), .ref (ad 1), .ref (ad 2), .ref (ad 3), .ref (ad 4), .ref (ad 5), .int (σ 0 1), .ref (ad 6), .ref (ad 7), .ref (ad 8), .ref (ad 9), .ref (ad 10)] : List Value).set 6 (.int v))) = mW G ad (mS σ 0 1 v) := rfl
section MX
variable {p : Program} {l : Launch} {e : Env} {R : Room} {s : State} {m : MethodId} {args : Array Value} {below : List Frame} {meth : Method} {c : Code} {H H0 : Heap} {locs : List Loc} {cells slots : Nat} {Q : State → Prop}
variable {cc : ByteArray} {nL pc : Nat} {ls : Array Slot} {rest : List Value} {Ts : List Cond} {own : String} {A : Nat → Prop} {wd : va_W} {G : hG} {ad : Nat → Nat} {σ : Sg}
theorem mx_ld (S : CallFix p m c cc nL s args Ts own) (X : hH G A H0 s (mW G ad σ) H locs) (k : Nat) {N : Nat} (hk : (mW G ad σ)[k]? = some (ad k, hAI G N (σ k))) {j : Nat} (hj : j < N) (hN : N < 2 ^ 31) {x : Int32} (hx : σ k j = x) (hdg : decode cc pc = .ok (.iaload, 1))
    (kk : W p l e R s m args below meth c H locs cells slots Q (F0 m (pc + 1) ls (.int x :: rest))) : W p l e R s m args below meth c H locs cells slots Q (F0 m pc ls (.int (nI j) :: .ref (ad k) :: rest)) :=
  hx_iald S X k hk (vp_in_nI hj hN) (by rw [nI_clamp (by omega)]; exact hx) hdg kk
theorem mx_st (S : CallFix p m c cc nL s args Ts own) (X : hH G A H0 s (mW G ad σ) H locs) (k : Nat) {N : Nat} (hk : (mW G ad σ)[k]? = some (ad k, hAI G N (σ k))) {j : Nat} (hj : j < N) (hN : N < 2 ^ 31) {x : Int32} (hdg : decode cc pc = .ok (.iastore, 1)) (hw : (mW G ad σ).set k (ad k, hAI G N (upd (σ k) j x)) = mW G ad (mS σ k j x))
    (kk : ∀ (H1 : Heap) (locs1 : List Loc), hH G A H0 s (mW G ad (mS σ k j x)) H1 locs1 → W p l e R s m args below meth c H1 locs1 cells slots Q (F0 m (pc + 1) ls rest)) : W p l e R s m args below meth c H locs cells slots Q (F0 m pc ls (.int x :: .int (nI j) :: .ref (ad k) :: rest)) :=
  hx_iast S X k hk j (nI_clamp (by omega)) (vp_in_nI hj hN) hdg hw kk
theorem mx_zld (S : CallFix p m c cc nL s args Ts own) (X : hH G A H0 s (mW G ad σ) H locs) {j : Nat} (hj : j < 24) {x : Int32} (hx : σ 6 j = x) (hdg : decode cc pc = .ok (.baload, 1))
    (kk : W p l e R s m args below meth c H locs cells slots Q (F0 m (pc + 1) ls (.int x :: rest))) : W p l e R s m args below meth c H locs cells slots Q (F0 m pc ls (.int (nI j) :: .ref (ad 6) :: rest)) :=
  hx_zald S X 6 (mW_6 G ad σ) (vp_in_nI hj (by decide)) (by rw [nI_clamp (by omega)]; exact hx) hdg kk
theorem mx_zst (S : CallFix p m c cc nL s args Ts own) (X : hH G A H0 s (mW G ad σ) H locs) {j : Nat} (hj : j < 24) {x : Int32} (hz : vp_nar .boolean x = x) (hdg : decode cc pc = .ok (.bastore, 1))
    (kk : ∀ (H1 : Heap) (locs1 : List Loc), hH G A H0 s (mW G ad (mS σ 6 j x)) H1 locs1 → W p l e R s m args below meth c H1 locs1 cells slots Q (F0 m (pc + 1) ls rest)) : W p l e R s m args below meth c H locs cells slots Q (F0 m pc ls (.int x :: .int (nI j) :: .ref (ad 6) :: rest)) :=
  hx_zast S X 6 (mW_6 G ad σ) j (nI_clamp (by omega)) (vp_in_nI hj (by decide)) hz hdg (mW_s6 G ad σ j x) kk
end MX
/-! readings, in numbers -/
abbrev cN (x : Int32) : Nat := x.toNatClampNeg
def nC (σ : Sg) : Nat := cN (σ 0 0)
def nO (σ : Sg) : Nat := cN (σ 0 1)
def cnt (σ : Sg) (t : Nat) : Nat := cN (σ 1 (162 * t + 0))
def stp (σ : Sg) (t v : Nat) : Nat := cN (σ 1 (162 * t + (10 + v)))
def dN (σ : Sg) (th : Nat) : Nat := cN (σ 2 th)
def fC (σ : Sg) (j : Nat) : Nat := cN (σ 3 j)
def fV (σ : Sg) (j : Nat) : Nat := cN (σ 4 j)
def oC (σ : Sg) (o : Nat) : Nat := cN (σ 7 o)
def oV (σ : Sg) (o : Nat) : Nat := cN (σ 8 o)
def oF (σ : Sg) (o : Nat) : Nat := cN (σ 9 o)
def liv (σ : Sg) (j : Nat) : Prop := j % 8 < dN σ (j / 8)
def isVal (x : Int32) : Prop := -1000000 ≤ x ∧ x ≤ 1000000
def isF (x : Int32) : Prop := ∃ f : Nat, f < 8 ∧ x = nI f
def isT (x : Int32) : Prop := ∃ t : Nat, t < 4 ∧ x = nI t
def isC (σ : Sg) (x : Int32) : Prop := ∃ t : Nat, t < nC σ ∧ x = nI t
def isO (σ : Sg) (x : Int32) : Prop := ∃ o : Nat, (o < nO σ ∧ σ 6 o = 1) ∧ x = nI o
def hasF (set f : Int32) : Prop := isF f ∧ (set >>> (f &&& 31)) &&& 1 = 1
def pinB (x o : Int32) : Prop := (x >>> (o &&& 31)) &&& 1 = 1
/-- a step: kind 0 to 4, its field, its second word -/
def okSt (k a b : Int32) : Prop := (∃ f : Nat, f < 8 ∧ a = nI f) ∧ ((k = 0 ∧ isVal b) ∨ k = 1 ∨ (k = 2 ∧ isF b) ∨ (k = 3 ∧ -100000 ≤ b ∧ b ≤ 100000) ∨ (k = 4 ∧ isF b))
def InvC (σ : Sg) (t : Nat) : Prop := (σ 1 (162 * t + 0) = nI (cnt σ t) ∧ 1 ≤ cnt σ t ∧ cnt σ t ≤ 8) ∧ (σ 1 (162 * t + 1) = 0 ∨ (σ 1 (162 * t + 1) = 1 ∧ cnt σ t ≤ 7)) ∧
  ∀ v, v < 8 → (σ 1 (162 * t + (10 + v)) = nI (stp σ t v) ∧ stp σ t v ≤ 6) ∧ ∀ n, n < stp σ t v → okSt (σ 1 (162 * t + (18 + 18 * v + 3 * n))) (σ 1 (162 * t + (18 + 18 * v + 3 * n) + 1)) (σ 1 (162 * t + (18 + 18 * v + 3 * n) + 2))
def InvF (σ : Sg) (j : Nat) : Prop := (σ 3 j = nI (fC σ j) ∧ fC σ j < nC σ) ∧ (σ 4 j = nI (fV σ j) ∧ fV σ j < cnt σ (fC σ j)) ∧ ∀ o, o < 24 → pinB (σ 5 j) (nI o) → o < nO σ ∧ (σ 6 o = 1 → σ 7 o = σ 3 j ∧ oF σ o ≤ fV σ j)
def InvO (σ : Sg) (o : Nat) : Prop := (σ 7 o = nI (oC σ o) ∧ oC σ o < nC σ) ∧ (σ 8 o = nI (oV σ o) ∧ oV σ o < cnt σ (oC σ o)) ∧ (σ 9 o = nI (oF σ o) ∧ oF σ o ≤ oV σ o) ∧ ∀ v k, oF σ o ≤ v → v ≤ oV σ o → k < 8 → isVal (σ 10 (64 * o + 8 * v + k))
def Inv (σ : Sg) : Prop := (σ 0 0 = nI (nC σ) ∧ nC σ ≤ 6) ∧ (σ 0 1 = nI (nO σ) ∧ nO σ ≤ 24) ∧ (∀ t, t < nC σ → InvC σ t) ∧ (∀ th, th < 4 → σ 2 th = nI (dN σ th) ∧ dN σ th ≤ 8) ∧ (∀ j, j < 32 → liv σ j → InvF σ j) ∧ (∀ o, o < nO σ → (σ 6 o = 0 ∨ σ 6 o = 1) ∧ (σ 6 o = 1 → InvO σ o))
/-- a choice between two by any proposition -/
noncomputable def wif {α : Type} (P : Prop) (a b : α) : α := @ite α P (Classical.propDecidable P) a b
theorem wif_t {α : Type} {P : Prop} (h : P) (a b : α) : wif P a b = a := by simp [wif, h]
theorem wif_f {α : Type} {P : Prop} (h : ¬ P) (a b : α) : wif P a b = b := by simp [wif, h]
/-- the answer of a test: 1 or 0 -/
def isB (r : Int32) (P : Prop) : Prop := (P → r = 1) ∧ (¬ P → r = 0)
theorem isB_t {r : Int32} {P : Prop} (h : P) (hr : r = 1) : isB r P := ⟨fun _ => hr, fun n => absurd h n⟩
theorem isB_f {r : Int32} {P : Prop} (h : ¬ P) (hr : r = 0) : isB r P := ⟨fun n => absurd n h, fun _ => hr⟩
theorem isB_same {P : Prop} (r r2 : Int32) (h1 : isB r P) (h2 : isB r2 P) : r = r2 := by
  by_cases h : P
  · rw [h1.1 h, h2.1 h]
  · rw [h1.2 h, h2.2 h]
theorem i_lt (a b : Int32) : a < b ↔ a.toInt < b.toInt := Int32.lt_iff_toInt_lt
theorem i_le (a b : Int32) : a ≤ b ↔ a.toInt ≤ b.toInt := Int32.le_iff_toInt_le
/-- a range test from 0 -/
theorem in_0 {n : Nat} (hn : n < 2 ^ 31) (x : Int32) : (0 ≤ x ∧ x < nI n) ↔ ∃ j : Nat, j < n ∧ x = nI j := by
  constructor
  · intro h
    rcases pk_ix x (n := n) hn with h1 | h1 | h1
    · exact absurd h.1 (by rw [i_le]; rw [i_lt] at h1; omega)
    · exact absurd h.2 (by rw [i_lt]; rw [i_le] at h1; omega)
    · exact h1
  · rintro ⟨j, hj, rfl⟩
    exact ⟨nI_pos' (by omega), nI_lt hj (by omega)⟩
theorem in_1 {n : Nat} (hn : n < 2 ^ 30) (x : Int32) : (0 ≤ x ∧ x ≤ nI n) ↔ ∃ j : Nat, j < n + 1 ∧ x = nI j := by
  rw [← in_0 (n := n + 1) (show n + 1 < 2 ^ 31 by omega)]
  have h1 : (nI n).toInt = n := nI_toInt (by omega)
  have h2 : (nI (n + 1)).toInt = (n + 1 : Nat) := nI_toInt (by omega)
  constructor
  · rintro ⟨a, b⟩
    refine ⟨a, ?_⟩
    rw [i_lt, h2]
    rw [i_le, h1] at b
    omega
  · rintro ⟨a, b⟩
    refine ⟨a, ?_⟩
    rw [i_le, h1]
    rw [i_lt, h2] at b
    omega
theorem in_m1 {n : Nat} (hn : n < 2 ^ 30) (x : Int32) : (0 ≤ x ∧ x ≤ nI n - 1) ↔ ∃ j : Nat, j < n ∧ x = nI j := by
  cases n with
  | zero =>
    constructor
    · rintro ⟨a, b⟩
      rw [i_le] at a b
      have h1 : (nI 0 - 1).toInt = -1 := by decide
      have h2 : (0 : Int32).toInt = 0 := by decide
      omega
    · rintro ⟨j, hj, _⟩
      omega
  | succ n =>
    rw [nI_pred]
    exact in_1 (by omega) x
end
section
/-! the reference's answers and new states, first lot -/
noncomputable def ws (σ : Sg) (x : Int32) : Int32 := wif (isC σ x) (wif (σ 1 (162 * cN x + 1) = 0) (-2000008) 0) (-2000001)
theorem ws_cases {σ : Sg} (hI : Inv σ) (x : Int32) : (¬ isC σ x ∧ ws σ x = -2000001) ∨ (∃ t, t < nC σ ∧ x = nI t ∧ σ 1 (162 * t + 1) = 0 ∧ ws σ x = -2000008) ∨ (∃ t, t < nC σ ∧ x = nI t ∧ ¬ σ 1 (162 * t + 1) = 0 ∧ ws σ x = 0) := by
  by_cases h : isC σ x
  · have h' := h
    obtain ⟨t, ht, rfl⟩ := h
    have h6 : nC σ ≤ 6 := hI.1.2
    have hc : cN (nI t) = t := nI_clamp (by omega)
    by_cases h1 : σ 1 (162 * t + 1) = 0
    · exact Or.inr (Or.inl ⟨t, ht, rfl, h1, by rw [ws, wif_t h', hc, wif_t h1]⟩)
    · exact Or.inr (Or.inr ⟨t, ht, rfl, h1, by rw [ws, wif_t h', hc, wif_f h1]⟩)
  · exact Or.inl ⟨h, by rw [ws, wif_f h]⟩
def sset (σ : Sg) (t : Nat) : Int32 := σ 1 (162 * t + (2 + cnt σ t))
theorem isB_nar {r : Int32} {P : Prop} (h : isB r P) : narrow .boolean (.int r) = .int r := by
  by_cases hP : P
  · rw [h.1 hP]; decide
  · rw [h.2 hP]; decide
theorem isB_iff {r : Int32} {P Q : Prop} (h : P ↔ Q) (hr : isB r P) : isB r Q := ⟨fun q => hr.1 (h.mpr q), fun q => hr.2 (fun p => q (h.mp p))⟩
noncomputable def M_currentVersion (σ : Sg) (type : Int32) : Int32 × Sg := wif (isC σ type) (nI (cnt σ (cN type)) - 1, σ) (-2000001, σ)
noncomputable def M_fields (σ : Sg) (type version : Int32) : Int32 × Sg := wif (isC σ type) (wif (∃ v, v < cnt σ (cN type) ∧ version = nI v) (σ 1 (162 * cN type + (2 + cN version)), σ) (-2000002, σ)) (-2000001, σ)
noncomputable def M_stagedFields (σ : Sg) (type : Int32) : Int32 × Sg := wif (ws σ type = 0) (sset σ (cN type), σ) (ws σ type, σ)
set_option maxRecDepth 100000 in
set_option maxHeartbeats 4000000 in
theorem c_X7_in (l : Launch) (G : hG) (wd : va_W) (v lo hi : Int32)  : hMi l G yX7_in wsX7_in ({ frames := 0, cells := 0, slots := 0, locals := 0 } : Room) wd [.int (v), .int (lo), .int (hi)] (fun r w => isB r (lo ≤ v ∧ v ≤ hi) ∧ w = wd) := by
  refine hMi.of (cc := cX7_in) (maxL := 3) (some .boolean) RX7 rfl (by decide +kernel) rfl (Nat.le_of_ble_eq_true rfl) ?_
  intro p e s m args below meth c S hr hlk X ls hl
  have hx := S.1
  have hb := S.2.1
  have hown := S.2.2.2.1
  have hts := S.2.2.2.2
  have hl : lv_has ls 3 [(0, .int (v)), (1, .int (lo)), (2, .int (hi))] := hl
  refine lv_iload_n hx hb dX7_in_0 rfl (lv_at hl 0 rfl) ?_
  refine lv_iload_n hx hb dX7_in_1 rfl (lv_at hl 1 rfl) ?_
  refine lv_icmp_lt (tgt := 14) hx hb dX7_in_2 (by decide) (fun c2 => ?_) (fun c2 => ?_)
  · skip
    refine lv_iconst (v := 0) hx hb dX7_in_14 (by decide) ?_
    exact hx_zret S X hr hlk (Nat.le_of_ble_eq_true rfl) (Nat.le_of_ble_eq_true rfl) (by decide) ⟨isB_f (fun h => absurd c2 (Int32.not_lt.mpr h.1)) rfl, rfl⟩ dX7_in_15
  · skip
    refine lv_iload_n hx hb dX7_in_5 rfl (lv_at hl 0 rfl) ?_
    refine lv_iload_n hx hb dX7_in_6 rfl (lv_at hl 2 rfl) ?_
    refine lv_icmp_gt (tgt := 14) hx hb dX7_in_7 (by decide) (fun c7 => ?_) (fun c7 => ?_)
    · skip
      refine lv_iconst (v := 0) hx hb dX7_in_14 (by decide) ?_
      exact hx_zret S X hr hlk (Nat.le_of_ble_eq_true rfl) (Nat.le_of_ble_eq_true rfl) (by decide) ⟨isB_f (fun h => absurd c7 (Int32.not_lt.mpr h.2)) rfl, rfl⟩ dX7_in_15
    · skip
      refine lv_iconst (v := 1) hx hb dX7_in_10 (by decide) ?_
      refine lv_goto (tgt := 15) hx hb dX7_in_11 (by decide) ?_
      exact hx_zret S X hr hlk (Nat.le_of_ble_eq_true rfl) (Nat.le_of_ble_eq_true rfl) (by decide) ⟨isB_t ⟨Int32.not_lt.mp c2, Int32.not_lt.mp c7⟩ rfl, rfl⟩ dX7_in_15

set_option maxRecDepth 100000 in
set_option maxHeartbeats 4000000 in
theorem c_X7_at (l : Launch) (G : hG) (wd : va_W) (t k : Nat)  : hMi l G yX7_at wsX7_at ({ frames := 0, cells := 0, slots := 0, locals := 0 } : Room) wd [.int (nI (t)), .int (nI (k))] (fun r w => r = nI (162 * t + k) ∧ w = wd) := by
  refine hMi.of (cc := cX7_at) (maxL := 2) (some .int) RX7 rfl (by decide +kernel) rfl (Nat.le_of_ble_eq_true rfl) ?_
  intro p e s m args below meth c S hr hlk X ls hl
  have hx := S.1
  have hb := S.2.1
  have hown := S.2.2.2.1
  have hts := S.2.2.2.2
  have hl : lv_has ls 2 [(0, .int (nI (t))), (1, .int (nI (k)))] := hl
  refine lv_sipush (v := 162) hx hb dX7_at_0 (by decide) ?_
  refine lv_iload_n hx hb dX7_at_3 rfl (lv_at hl 0 rfl) ?_
  refine lv_imul hx hb dX7_at_4 ?_
  refine hx_ei (show _ = nI ((162) * (t)) from pk_mul (162) (t)) ?_
  refine lv_iload_n hx hb dX7_at_5 rfl (lv_at hl 1 rfl) ?_
  refine lv_iadd hx hb dX7_at_6 ?_
  refine hx_ei (show _ = nI ((162) * (t) + k) from nI_add ((162) * (t)) (k)) ?_
  exact hx_iret S X hr hlk (Nat.le_of_ble_eq_true rfl) (Nat.le_of_ble_eq_true rfl) ⟨rfl, rfl⟩ dX7_at_7

set_option maxRecDepth 100000 in
set_option maxHeartbeats 4000000 in
theorem c_X7_of (l : Launch) (G : hG) (ad : Nat → Nat) (σ : Sg) (t k : Nat) (hk : 162 * t + k < 972) : hMi l G yX7_of wsX7_of ({ frames := 1, cells := 0, slots := 0, locals := 21 } : Room) (mW G ad σ) [.ref (ad 0), .int (nI (t)), .int (nI (k))] (fun r w => r = σ 1 (162 * t + k) ∧ w = (mW G ad σ)) := by
  refine hMi.of (cc := cX7_of) (maxL := 3) (some .int) RX7 rfl (by decide +kernel) rfl (Nat.le_of_ble_eq_true rfl) ?_
  intro p e s m args below meth c S hr hlk X ls hl
  have hx := S.1
  have hb := S.2.1
  have hown := S.2.2.2.1
  have hts := S.2.2.2.2
  have hl : lv_has ls 3 [(0, .ref (ad 0)), (1, .int (nI (t))), (2, .int (nI (k)))] := hl
  have hin7 : ∀ w ∈ wsX70, w ∈ wsX7_of := by decide +kernel
  refine lv_aload_n hx hb dX7_of_0 rfl (lv_at hl 0 rfl) ?_
  refine hx_getL S X (ci := 7) 0 (mW_0 _ _ _) rfl hin7 1 (by decide) (by decide +kernel) rfl dX7_of_1 ?_
  refine lv_iload_n hx hb dX7_of_4 rfl (lv_at hl 1 rfl) ?_
  refine lv_iload_n hx hb dX7_of_5 rfl (lv_at hl 2 rfl) ?_
  refine hx_Si (rest := [.ref (ad 1)]) S X (c_X7_at l G _ (t) (k)) gX7_of_X7_at rfl (n := 2) (by decide +kernel) rfl ⟨(Nat.le_of_ble_eq_true rfl), (Nat.le_of_ble_eq_true rfl)⟩ hl.1 rfl (Nat.le_of_ble_eq_true rfl) dX7_of_6 ⟨(Nat.le_of_ble_eq_true rfl), (Nat.le_of_ble_eq_true rfl)⟩ (fun r wd1 H locs hp X => ?_)
  obtain ⟨rfl, rfl⟩ := hp
  refine mx_ld S X 1 (N := 972) (mW_1 _ _ _) (j := 162 * t + k) (by omega) (by decide) (x := σ 1 (162 * t + k)) (rfl) dX7_of_9 ?_
  exact hx_iret S X hr hlk (Nat.le_of_ble_eq_true rfl) (Nat.le_of_ble_eq_true rfl) ⟨rfl, rfl⟩ dX7_of_10

set_option maxRecDepth 100000 in
set_option maxHeartbeats 4000000 in
theorem c_X7_isClass (l : Launch) (G : hG) (ad : Nat → Nat) (σ : Sg) (x : Int32) (hI : Inv σ) : hMi l G yX7_isClass wsX7_isClass ({ frames := 1, cells := 0, slots := 0, locals := 22 } : Room) (mW G ad σ) [.ref (ad 0), .int (x)] (fun r w => isB r (isC σ x) ∧ w = (mW G ad σ)) := by
  refine hMi.of (cc := cX7_isClass) (maxL := 2) (some .boolean) RX7 rfl (by decide +kernel) rfl (Nat.le_of_ble_eq_true rfl) ?_
  intro p e s m args below meth c S hr hlk X ls hl
  have hx := S.1
  have hb := S.2.1
  have hown := S.2.2.2.1
  have hts := S.2.2.2.2
  have hl : lv_has ls 2 [(0, .ref (ad 0)), (1, .int (x))] := hl
  have hin7 : ∀ w ∈ wsX70, w ∈ wsX7_isClass := by decide +kernel
  have hC6 : nC σ ≤ 6 := hI.1.2
  have hO24 : nO σ ≤ 24 := hI.2.1.2
  refine lv_iload_n hx hb dX7_isClass_0 rfl (lv_at hl 1 rfl) ?_
  refine lv_iconst (v := 0) hx hb dX7_isClass_1 (by decide) ?_
  refine lv_aload_n hx hb dX7_isClass_2 rfl (lv_at hl 0 rfl) ?_
  refine hx_getL S X (ci := 7) 0 (mW_0 _ _ _) rfl hin7 0 (by decide) (by decide +kernel) rfl dX7_isClass_3 ?_
  refine hx_ei (show _ = nI (nC σ) from hI.1.1) ?_
  refine lv_iconst (v := 1) hx hb dX7_isClass_6 (by decide) ?_
  refine lv_isub hx hb dX7_isClass_7 ?_
  refine hx_ei (show _ = nI (nC σ) - 1 from rfl) ?_
  refine hx_Si (rest := []) S X (c_X7_in l G _ (x) ((0 : Int32)) (nI (nC σ) - 1)) gX7_isClass_X7_in rfl (n := 3) (by decide +kernel) rfl ⟨(Nat.le_of_ble_eq_true rfl), (Nat.le_of_ble_eq_true rfl)⟩ hl.1 rfl (Nat.le_of_ble_eq_true rfl) dX7_isClass_8 ⟨(Nat.le_of_ble_eq_true rfl), (Nat.le_of_ble_eq_true rfl)⟩ (fun r wd1 H locs hp X => ?_)
  obtain ⟨hr8, rfl⟩ := hp
  exact hx_zret S X hr hlk (Nat.le_of_ble_eq_true rfl) (Nat.le_of_ble_eq_true rfl) (isB_nar hr8) ⟨isB_iff (in_m1 (by omega) x) hr8, rfl⟩ dX7_isClass_11

set_option maxRecDepth 100000 in
set_option maxHeartbeats 4000000 in
theorem c_X7_wrongStage (l : Launch) (G : hG) (ad : Nat → Nat) (σ : Sg) (x : Int32) (hI : Inv σ) : hMi l G yX7_wrongStage wsX7_wrongStage ({ frames := 2, cells := 0, slots := 0, locals := 43 } : Room) (mW G ad σ) [.ref (ad 0), .int (x)] (fun r w => r = ws σ x ∧ w = (mW G ad σ)) := by
  refine hMi.of (cc := cX7_wrongStage) (maxL := 2) (some .int) RX7 rfl (by decide +kernel) rfl (Nat.le_of_ble_eq_true rfl) ?_
  intro p e s m args below meth c S hr hlk X ls hl
  have hx := S.1
  have hb := S.2.1
  have hown := S.2.2.2.1
  have hts := S.2.2.2.2
  have hl : lv_has ls 2 [(0, .ref (ad 0)), (1, .int (x))] := hl
  have hin7 : ∀ w ∈ wsX70, w ∈ wsX7_wrongStage := by decide +kernel
  have hC6 : nC σ ≤ 6 := hI.1.2
  have hO24 : nO σ ≤ 24 := hI.2.1.2
  refine lv_aload_n hx hb dX7_wrongStage_0 rfl (lv_at hl 0 rfl) ?_
  refine lv_iload_n hx hb dX7_wrongStage_1 rfl (lv_at hl 1 rfl) ?_
  refine hx_Vi (rest := []) S X (c_X7_isClass l G ad σ (x) hI) gX7_wrongStage_X7_isClass rfl (n := 1) (by decide +kernel) rfl ⟨(Nat.le_of_ble_eq_true rfl), (Nat.le_of_ble_eq_true rfl)⟩ (hx_recvL (q0 := 0) (ci := 7) X rfl (mW_0 _ _ _)) hl.1 rfl (Nat.le_of_ble_eq_true rfl) dX7_wrongStage_2 ⟨(Nat.le_of_ble_eq_true rfl), (Nat.le_of_ble_eq_true rfl)⟩ (fun r wd1 H locs hp X => ?_)
  obtain ⟨hr2, rfl⟩ := hp
  by_cases h2 : isC σ (x)
  · skip
    refine hx_ei (hr2.1 h2) ?_
    have h2' := h2
    obtain ⟨t, ht, rfl⟩ := h2
    have hct : (nI t).toNatClampNeg = t := nI_clamp (by omega)
    obtain ⟨⟨hk0, hk1, hk2⟩, hks, hkv⟩ := hI.2.2.1 t ht
    refine lv_if_ne (tgt := 13) hx hb dX7_wrongStage_5 (by decide) (fun _ => ?_) (fun c9 => absurd c9 (by decide))
    refine lv_aload_n hx hb dX7_wrongStage_13 rfl (lv_at hl 0 rfl) ?_
    refine lv_iload_n hx hb dX7_wrongStage_14 rfl (lv_at hl 1 rfl) ?_
    refine lv_iconst (v := 1) hx hb dX7_wrongStage_15 (by decide) ?_
    refine hx_Vi (rest := []) S X (c_X7_of l G ad σ (t) (1) (by omega)) gX7_wrongStage_X7_of rfl (n := 2) (by decide +kernel) rfl ⟨(Nat.le_of_ble_eq_true rfl), (Nat.le_of_ble_eq_true rfl)⟩ (hx_recvL (q0 := 0) (ci := 7) X rfl (mW_0 _ _ _)) hl.1 rfl (Nat.le_of_ble_eq_true rfl) dX7_wrongStage_16 ⟨(Nat.le_of_ble_eq_true rfl), (Nat.le_of_ble_eq_true rfl)⟩ (fun r wd1 H locs hp X => ?_)
    obtain ⟨rfl, rfl⟩ := hp
    refine hx_ei (show _ = σ 1 (162 * t + 1) from rfl) ?_
    refine lv_if_ne (tgt := 27) hx hb dX7_wrongStage_19 (by decide) (fun c19 => ?_) (fun c19 => ?_)
    · skip
      refine lv_iconst (v := 0) hx hb dX7_wrongStage_27 (by decide) ?_
      exact hx_iret S X hr hlk (Nat.le_of_ble_eq_true rfl) (Nat.le_of_ble_eq_true rfl) (by simp [ws, wif_t, wif_f, h2', hct, c19]) dX7_wrongStage_28
    · skip
      refine lv_ldc (v := -2000008) hx hb hown (hts (Cond.constant RX7 69 (-2000008)) (by decide +kernel)) dX7_wrongStage_22 ?_
      refine lv_goto (tgt := 28) hx hb dX7_wrongStage_24 (by decide) ?_
      exact hx_iret S X hr hlk (Nat.le_of_ble_eq_true rfl) (Nat.le_of_ble_eq_true rfl) (by simp [ws, wif_t, wif_f, h2', hct, c19]) dX7_wrongStage_28
  · skip
    refine hx_ei (hr2.2 h2) ?_
    refine lv_if_ne (tgt := 13) hx hb dX7_wrongStage_5 (by decide) (fun c9 => absurd (by decide) c9) (fun _ => ?_)
    refine lv_ldc (v := -2000001) hx hb hown (hts (Cond.constant RX7 66 (-2000001)) (by decide +kernel)) dX7_wrongStage_8 ?_
    refine lv_goto (tgt := 28) hx hb dX7_wrongStage_10 (by decide) ?_
    exact hx_iret S X hr hlk (Nat.le_of_ble_eq_true rfl) (Nat.le_of_ble_eq_true rfl) (by simp [ws, wif_t, wif_f, h2]) dX7_wrongStage_28

set_option maxRecDepth 100000 in
set_option maxHeartbeats 4000000 in
theorem c_X7_stagedNow (l : Launch) (G : hG) (ad : Nat → Nat) (σ : Sg) (t : Nat) (hI : Inv σ) (ht : t < nC σ) (h7 : cnt σ t ≤ 7) : hMi l G yX7_stagedNow wsX7_stagedNow ({ frames := 2, cells := 0, slots := 0, locals := 43 } : Room) (mW G ad σ) [.ref (ad 0), .int (nI (t))] (fun r w => r = sset σ t ∧ w = (mW G ad σ)) := by
  refine hMi.of (cc := cX7_stagedNow) (maxL := 2) (some .int) RX7 rfl (by decide +kernel) rfl (Nat.le_of_ble_eq_true rfl) ?_
  intro p e s m args below meth c S hr hlk X ls hl
  have hx := S.1
  have hb := S.2.1
  have hown := S.2.2.2.1
  have hts := S.2.2.2.2
  have hl : lv_has ls 2 [(0, .ref (ad 0)), (1, .int (nI (t)))] := hl
  have hin7 : ∀ w ∈ wsX70, w ∈ wsX7_stagedNow := by decide +kernel
  have hC6 : nC σ ≤ 6 := hI.1.2
  have hO24 : nO σ ≤ 24 := hI.2.1.2
  refine lv_aload_n hx hb dX7_stagedNow_0 rfl (lv_at hl 0 rfl) ?_
  refine lv_iload_n hx hb dX7_stagedNow_1 rfl (lv_at hl 1 rfl) ?_
  refine lv_iconst (v := 2) hx hb dX7_stagedNow_2 (by decide) ?_
  refine lv_aload_n hx hb dX7_stagedNow_3 rfl (lv_at hl 0 rfl) ?_
  refine lv_iload_n hx hb dX7_stagedNow_4 rfl (lv_at hl 1 rfl) ?_
  refine lv_iconst (v := 0) hx hb dX7_stagedNow_5 (by decide) ?_
  refine hx_Vi (rest := [.int ((2 : Int32)), .int (nI (t)), .ref (ad 0)]) S X (c_X7_of l G ad σ (t) (0) (by omega)) gX7_stagedNow_X7_of rfl (n := 2) (by decide +kernel) rfl ⟨(Nat.le_of_ble_eq_true rfl), (Nat.le_of_ble_eq_true rfl)⟩ (hx_recvL (q0 := 0) (ci := 7) X rfl (mW_0 _ _ _)) hl.1 rfl (Nat.le_of_ble_eq_true rfl) dX7_stagedNow_6 ⟨(Nat.le_of_ble_eq_true rfl), (Nat.le_of_ble_eq_true rfl)⟩ (fun r wd1 H locs hp X => ?_)
  obtain ⟨rfl, rfl⟩ := hp
  refine hx_ei (show _ = nI (cnt σ t) from (hI.2.2.1 t ht).1.1) ?_
  refine lv_iadd hx hb dX7_stagedNow_9 ?_
  refine hx_ei (show _ = nI (2 + cnt σ t) from nI_add (2) (cnt σ t)) ?_
  refine hx_Vi (rest := []) S X (c_X7_of l G ad σ (t) (2 + cnt σ t) (by omega)) gX7_stagedNow_X7_of rfl (n := 2) (by decide +kernel) rfl ⟨(Nat.le_of_ble_eq_true rfl), (Nat.le_of_ble_eq_true rfl)⟩ (hx_recvL (q0 := 0) (ci := 7) X rfl (mW_0 _ _ _)) hl.1 rfl (Nat.le_of_ble_eq_true rfl) dX7_stagedNow_10 ⟨(Nat.le_of_ble_eq_true rfl), (Nat.le_of_ble_eq_true rfl)⟩ (fun r wd1 H locs hp X => ?_)
  obtain ⟨rfl, rfl⟩ := hp
  refine hx_ei (show _ = σ 1 (162 * t + (2 + cnt σ t)) from rfl) ?_
  exact hx_iret S X hr hlk (Nat.le_of_ble_eq_true rfl) (Nat.le_of_ble_eq_true rfl) ⟨rfl, rfl⟩ dX7_stagedNow_13

set_option maxRecDepth 100000 in
set_option maxHeartbeats 4000000 in
theorem c_X7_current (l : Launch) (G : hG) (ad : Nat → Nat) (σ : Sg) (t : Nat) (h6 : t < 6) : hMi l G yX7_current wsX7_current ({ frames := 2, cells := 0, slots := 0, locals := 43 } : Room) (mW G ad σ) [.ref (ad 0), .int (nI (t))] (fun r w => r = σ 1 (162 * t + 0) - 1 ∧ w = (mW G ad σ)) := by
  refine hMi.of (cc := cX7_current) (maxL := 2) (some .int) RX7 rfl (by decide +kernel) rfl (Nat.le_of_ble_eq_true rfl) ?_
  intro p e s m args below meth c S hr hlk X ls hl
  have hx := S.1
  have hb := S.2.1
  have hown := S.2.2.2.1
  have hts := S.2.2.2.2
  have hl : lv_has ls 2 [(0, .ref (ad 0)), (1, .int (nI (t)))] := hl
  have hin7 : ∀ w ∈ wsX70, w ∈ wsX7_current := by decide +kernel
  refine lv_aload_n hx hb dX7_current_0 rfl (lv_at hl 0 rfl) ?_
  refine lv_iload_n hx hb dX7_current_1 rfl (lv_at hl 1 rfl) ?_
  refine lv_iconst (v := 0) hx hb dX7_current_2 (by decide) ?_
  refine hx_Vi (rest := []) S X (c_X7_of l G ad σ (t) (0) (by omega)) gX7_current_X7_of rfl (n := 2) (by decide +kernel) rfl ⟨(Nat.le_of_ble_eq_true rfl), (Nat.le_of_ble_eq_true rfl)⟩ (hx_recvL (q0 := 0) (ci := 7) X rfl (mW_0 _ _ _)) hl.1 rfl (Nat.le_of_ble_eq_true rfl) dX7_current_3 ⟨(Nat.le_of_ble_eq_true rfl), (Nat.le_of_ble_eq_true rfl)⟩ (fun r wd1 H locs hp X => ?_)
  obtain ⟨rfl, rfl⟩ := hp
  refine hx_ei (show _ = σ 1 (162 * t + 0) from rfl) ?_
  refine lv_iconst (v := 1) hx hb dX7_current_6 (by decide) ?_
  refine lv_isub hx hb dX7_current_7 ?_
  exact hx_iret S X hr hlk (Nat.le_of_ble_eq_true rfl) (Nat.le_of_ble_eq_true rfl) ⟨rfl, rfl⟩ dX7_current_8

set_option maxRecDepth 100000 in
set_option maxHeartbeats 4000000 in
theorem c_X7_has (l : Launch) (G : hG) (wd : va_W) (set f : Int32)  : hMi l G yX7_has wsX7_has ({ frames := 1, cells := 0, slots := 0, locals := 22 } : Room) wd [.int (set), .int (f)] (fun r w => isB r (hasF set f) ∧ w = wd) := by
  refine hMi.of (cc := cX7_has) (maxL := 2) (some .boolean) RX7 rfl (by decide +kernel) rfl (Nat.le_of_ble_eq_true rfl) ?_
  intro p e s m args below meth c S hr hlk X ls hl
  have hx := S.1
  have hb := S.2.1
  have hown := S.2.2.2.1
  have hts := S.2.2.2.2
  have hl : lv_has ls 2 [(0, .int (set)), (1, .int (f))] := hl
  refine lv_iload_n hx hb dX7_has_0 rfl (lv_at hl 1 rfl) ?_
  refine lv_iconst (v := 0) hx hb dX7_has_1 (by decide) ?_
  refine lv_bipush (v := 7) hx hb dX7_has_2 (by decide) ?_
  refine hx_Si (rest := []) S X (c_X7_in l G _ (f) ((0 : Int32)) ((7 : Int32))) gX7_has_X7_in rfl (n := 3) (by decide +kernel) rfl ⟨(Nat.le_of_ble_eq_true rfl), (Nat.le_of_ble_eq_true rfl)⟩ hl.1 rfl (Nat.le_of_ble_eq_true rfl) dX7_has_4 ⟨(Nat.le_of_ble_eq_true rfl), (Nat.le_of_ble_eq_true rfl)⟩ (fun r wd1 H locs hp X => ?_)
  obtain ⟨hr4, rfl⟩ := hp
  by_cases h4 : 0 ≤ f ∧ f ≤ 7
  · skip
    refine hx_ei (hr4.1 h4) ?_
    refine lv_if_eq (tgt := 23) hx hb dX7_has_7 (by decide) (fun c9 => absurd c9 (by decide)) (fun _ => ?_)
    refine lv_iload_n hx hb dX7_has_10 rfl (lv_at hl 0 rfl) ?_
    refine lv_iload_n hx hb dX7_has_11 rfl (lv_at hl 1 rfl) ?_
    refine lv_ishr hx hb dX7_has_12 ?_
    refine lv_iconst (v := 1) hx hb dX7_has_13 (by decide) ?_
    refine lv_iand hx hb dX7_has_14 ?_
    refine lv_iconst (v := 1) hx hb dX7_has_15 (by decide) ?_
    refine lv_icmp_ne (tgt := 23) hx hb dX7_has_16 (by decide) (fun c16 => ?_) (fun c16 => ?_)
    · skip
      refine lv_iconst (v := 0) hx hb dX7_has_23 (by decide) ?_
      exact hx_zret S X hr hlk (Nat.le_of_ble_eq_true rfl) (Nat.le_of_ble_eq_true rfl) (by decide) ⟨isB_f (fun h => absurd h.2 c16) rfl, rfl⟩ dX7_has_24
    · skip
      refine lv_iconst (v := 1) hx hb dX7_has_19 (by decide) ?_
      refine lv_goto (tgt := 24) hx hb dX7_has_20 (by decide) ?_
      exact hx_zret S X hr hlk (Nat.le_of_ble_eq_true rfl) (Nat.le_of_ble_eq_true rfl) (by decide) ⟨isB_t ⟨(in_1 (n := 7) (by decide) f).mp h4, c16⟩ rfl, rfl⟩ dX7_has_24
  · skip
    refine hx_ei (hr4.2 h4) ?_
    refine lv_if_eq (tgt := 23) hx hb dX7_has_7 (by decide) (fun _ => ?_) (fun c9 => absurd (by decide) c9)
    refine lv_iconst (v := 0) hx hb dX7_has_23 (by decide) ?_
    exact hx_zret S X hr hlk (Nat.le_of_ble_eq_true rfl) (Nat.le_of_ble_eq_true rfl) (by decide) ⟨isB_f (fun h => absurd ((in_1 (n := 7) (by decide) f).mpr h.1) h4) rfl, rfl⟩ dX7_has_24

set_option maxRecDepth 100000 in
set_option maxHeartbeats 4000000 in
theorem c_X7_currentVersion (l : Launch) (G : hG) (ad : Nat → Nat) (σ : Sg) (type : Int32) (hI : Inv σ) : hMi l G yX7_currentVersion wsX7_currentVersion ({ frames := 3, cells := 0, slots := 0, locals := 64 } : Room) (mW G ad σ) [.ref (ad 0), .int (type)] (fun r w => r = (M_currentVersion σ type).1 ∧ w = mW G ad (M_currentVersion σ type).2) := by
  refine hMi.of (cc := cX7_currentVersion) (maxL := 2) (some .int) RX7 rfl (by decide +kernel) rfl (Nat.le_of_ble_eq_true rfl) ?_
  intro p e s m args below meth c S hr hlk X ls hl
  have hx := S.1
  have hb := S.2.1
  have hown := S.2.2.2.1
  have hts := S.2.2.2.2
  have hl : lv_has ls 2 [(0, .ref (ad 0)), (1, .int (type))] := hl
  have hin7 : ∀ w ∈ wsX70, w ∈ wsX7_currentVersion := by decide +kernel
  have hC6 : nC σ ≤ 6 := hI.1.2
  have hO24 : nO σ ≤ 24 := hI.2.1.2
  refine lv_aload_n hx hb dX7_currentVersion_0 rfl (lv_at hl 0 rfl) ?_
  refine lv_iload_n hx hb dX7_currentVersion_1 rfl (lv_at hl 1 rfl) ?_
  refine hx_Vi (rest := []) S X (c_X7_isClass l G ad σ (type) hI) gX7_currentVersion_X7_isClass rfl (n := 1) (by decide +kernel) rfl ⟨(Nat.le_of_ble_eq_true rfl), (Nat.le_of_ble_eq_true rfl)⟩ (hx_recvL (q0 := 0) (ci := 7) X rfl (mW_0 _ _ _)) hl.1 rfl (Nat.le_of_ble_eq_true rfl) dX7_currentVersion_2 ⟨(Nat.le_of_ble_eq_true rfl), (Nat.le_of_ble_eq_true rfl)⟩ (fun r wd1 H locs hp X => ?_)
  obtain ⟨hr2, rfl⟩ := hp
  by_cases h2 : isC σ (type)
  · skip
    refine hx_ei (hr2.1 h2) ?_
    have h2' := h2
    obtain ⟨t, ht, rfl⟩ := h2
    have hct : (nI t).toNatClampNeg = t := nI_clamp (by omega)
    obtain ⟨⟨hk0, hk1, hk2⟩, hks, hkv⟩ := hI.2.2.1 t ht
    refine lv_if_eq (tgt := 16) hx hb dX7_currentVersion_5 (by decide) (fun c9 => absurd c9 (by decide)) (fun _ => ?_)
    refine lv_aload_n hx hb dX7_currentVersion_8 rfl (lv_at hl 0 rfl) ?_
    refine lv_iload_n hx hb dX7_currentVersion_9 rfl (lv_at hl 1 rfl) ?_
    refine hx_Vi (rest := []) S X (c_X7_current l G ad σ (t) (by omega)) gX7_currentVersion_X7_current rfl (n := 1) (by decide +kernel) rfl ⟨(Nat.le_of_ble_eq_true rfl), (Nat.le_of_ble_eq_true rfl)⟩ (hx_recvL (q0 := 0) (ci := 7) X rfl (mW_0 _ _ _)) hl.1 rfl (Nat.le_of_ble_eq_true rfl) dX7_currentVersion_10 ⟨(Nat.le_of_ble_eq_true rfl), (Nat.le_of_ble_eq_true rfl)⟩ (fun r wd1 H locs hp X => ?_)
    obtain ⟨rfl, rfl⟩ := hp
    refine hx_ei (show _ = nI (cnt σ t) - 1 from by rw [show σ 1 (162 * t + 0) = nI (cnt σ t) from hk0]) ?_
    refine lv_goto (tgt := 18) hx hb dX7_currentVersion_13 (by decide) ?_
    exact hx_iret S X hr hlk (Nat.le_of_ble_eq_true rfl) (Nat.le_of_ble_eq_true rfl) (by simp [M_currentVersion, wif_t, wif_f, h2', hct]) dX7_currentVersion_18
  · skip
    refine hx_ei (hr2.2 h2) ?_
    refine lv_if_eq (tgt := 16) hx hb dX7_currentVersion_5 (by decide) (fun _ => ?_) (fun c9 => absurd (by decide) c9)
    refine lv_ldc (v := -2000001) hx hb hown (hts (Cond.constant RX7 66 (-2000001)) (by decide +kernel)) dX7_currentVersion_16 ?_
    exact hx_iret S X hr hlk (Nat.le_of_ble_eq_true rfl) (Nat.le_of_ble_eq_true rfl) (by simp [M_currentVersion, wif_t, wif_f, h2]) dX7_currentVersion_18

set_option maxRecDepth 100000 in
set_option maxHeartbeats 4000000 in
theorem c_X7_fields (l : Launch) (G : hG) (ad : Nat → Nat) (σ : Sg) (type version : Int32) (hI : Inv σ) : hMi l G yX7_fields wsX7_fields ({ frames := 3, cells := 0, slots := 0, locals := 64 } : Room) (mW G ad σ) [.ref (ad 0), .int (type), .int (version)] (fun r w => r = (M_fields σ type version).1 ∧ w = mW G ad (M_fields σ type version).2) := by
  refine hMi.of (cc := cX7_fields) (maxL := 3) (some .int) RX7 rfl (by decide +kernel) rfl (Nat.le_of_ble_eq_true rfl) ?_
  intro p e s m args below meth c S hr hlk X ls hl
  have hx := S.1
  have hb := S.2.1
  have hown := S.2.2.2.1
  have hts := S.2.2.2.2
  have hl : lv_has ls 3 [(0, .ref (ad 0)), (1, .int (type)), (2, .int (version))] := hl
  have hin7 : ∀ w ∈ wsX70, w ∈ wsX7_fields := by decide +kernel
  have hC6 : nC σ ≤ 6 := hI.1.2
  have hO24 : nO σ ≤ 24 := hI.2.1.2
  refine lv_aload_n hx hb dX7_fields_0 rfl (lv_at hl 0 rfl) ?_
  refine lv_iload_n hx hb dX7_fields_1 rfl (lv_at hl 1 rfl) ?_
  refine hx_Vi (rest := []) S X (c_X7_isClass l G ad σ (type) hI) gX7_fields_X7_isClass rfl (n := 1) (by decide +kernel) rfl ⟨(Nat.le_of_ble_eq_true rfl), (Nat.le_of_ble_eq_true rfl)⟩ (hx_recvL (q0 := 0) (ci := 7) X rfl (mW_0 _ _ _)) hl.1 rfl (Nat.le_of_ble_eq_true rfl) dX7_fields_2 ⟨(Nat.le_of_ble_eq_true rfl), (Nat.le_of_ble_eq_true rfl)⟩ (fun r wd1 H locs hp X => ?_)
  obtain ⟨hr2, rfl⟩ := hp
  by_cases h2 : isC σ (type)
  · skip
    refine hx_ei (hr2.1 h2) ?_
    have h2' := h2
    obtain ⟨t, ht, rfl⟩ := h2
    have hct : (nI t).toNatClampNeg = t := nI_clamp (by omega)
    obtain ⟨⟨hk0, hk1, hk2⟩, hks, hkv⟩ := hI.2.2.1 t ht
    refine lv_if_ne (tgt := 11) hx hb dX7_fields_5 (by decide) (fun _ => ?_) (fun c9 => absurd c9 (by decide))
    refine lv_iload_n hx hb dX7_fields_11 rfl (lv_at hl 2 rfl) ?_
    refine lv_iconst (v := 0) hx hb dX7_fields_12 (by decide) ?_
    refine lv_aload_n hx hb dX7_fields_13 rfl (lv_at hl 0 rfl) ?_
    refine lv_iload_n hx hb dX7_fields_14 rfl (lv_at hl 1 rfl) ?_
    refine hx_Vi (rest := [.int ((0 : Int32)), .int (version)]) S X (c_X7_current l G ad σ (t) (by omega)) gX7_fields_X7_current rfl (n := 1) (by decide +kernel) rfl ⟨(Nat.le_of_ble_eq_true rfl), (Nat.le_of_ble_eq_true rfl)⟩ (hx_recvL (q0 := 0) (ci := 7) X rfl (mW_0 _ _ _)) hl.1 rfl (Nat.le_of_ble_eq_true rfl) dX7_fields_15 ⟨(Nat.le_of_ble_eq_true rfl), (Nat.le_of_ble_eq_true rfl)⟩ (fun r wd1 H locs hp X => ?_)
    obtain ⟨rfl, rfl⟩ := hp
    refine hx_ei (show _ = nI (cnt σ t) - 1 from by rw [show σ 1 (162 * t + 0) = nI (cnt σ t) from hk0]) ?_
    refine hx_Si (rest := []) S X (c_X7_in l G _ (version) ((0 : Int32)) (nI (cnt σ t) - 1)) gX7_fields_X7_in rfl (n := 3) (by decide +kernel) rfl ⟨(Nat.le_of_ble_eq_true rfl), (Nat.le_of_ble_eq_true rfl)⟩ hl.1 rfl (Nat.le_of_ble_eq_true rfl) dX7_fields_18 ⟨(Nat.le_of_ble_eq_true rfl), (Nat.le_of_ble_eq_true rfl)⟩ (fun r wd1 H locs hp X => ?_)
    obtain ⟨hr18, rfl⟩ := hp
    by_cases h18 : 0 ≤ version ∧ version ≤ nI (cnt σ t) - 1
    · skip
      refine hx_ei (hr18.1 h18) ?_
      have h18' := (in_m1 (by omega) version).mp h18
      have h18a := h18'
      obtain ⟨v, hv, rfl⟩ := h18'
      have hcv : (nI v).toNatClampNeg = v := nI_clamp (by omega)
      refine lv_if_eq (tgt := 35) hx hb dX7_fields_21 (by decide) (fun c9 => absurd c9 (by decide)) (fun _ => ?_)
      refine lv_aload_n hx hb dX7_fields_24 rfl (lv_at hl 0 rfl) ?_
      refine lv_iload_n hx hb dX7_fields_25 rfl (lv_at hl 1 rfl) ?_
      refine lv_iconst (v := 2) hx hb dX7_fields_26 (by decide) ?_
      refine lv_iload_n hx hb dX7_fields_27 rfl (lv_at hl 2 rfl) ?_
      refine lv_iadd hx hb dX7_fields_28 ?_
      refine hx_ei (show _ = nI (2 + v) from nI_add (2) (v)) ?_
      refine hx_Vi (rest := []) S X (c_X7_of l G ad σ (t) (2 + v) (by omega)) gX7_fields_X7_of rfl (n := 2) (by decide +kernel) rfl ⟨(Nat.le_of_ble_eq_true rfl), (Nat.le_of_ble_eq_true rfl)⟩ (hx_recvL (q0 := 0) (ci := 7) X rfl (mW_0 _ _ _)) hl.1 rfl (Nat.le_of_ble_eq_true rfl) dX7_fields_29 ⟨(Nat.le_of_ble_eq_true rfl), (Nat.le_of_ble_eq_true rfl)⟩ (fun r wd1 H locs hp X => ?_)
      obtain ⟨rfl, rfl⟩ := hp
      refine hx_ei (show _ = σ 1 (162 * t + (2 + v)) from rfl) ?_
      refine lv_goto (tgt := 37) hx hb dX7_fields_32 (by decide) ?_
      exact hx_iret S X hr hlk (Nat.le_of_ble_eq_true rfl) (Nat.le_of_ble_eq_true rfl) (by simp [M_fields, wif_t, wif_f, h2', hct, h18a, hcv]) dX7_fields_37
    · skip
      refine hx_ei (hr18.2 h18) ?_
      have h18a : ¬ ∃ j, j < cnt σ t ∧ version = nI j := fun h => h18 ((in_m1 (by omega) version).mpr h)
      refine lv_if_eq (tgt := 35) hx hb dX7_fields_21 (by decide) (fun _ => ?_) (fun c9 => absurd (by decide) c9)
      refine lv_ldc (v := -2000002) hx hb hown (hts (Cond.constant RX7 67 (-2000002)) (by decide +kernel)) dX7_fields_35 ?_
      exact hx_iret S X hr hlk (Nat.le_of_ble_eq_true rfl) (Nat.le_of_ble_eq_true rfl) (by simp [M_fields, wif_t, wif_f, h2', hct, h18, h18a]) dX7_fields_37
  · skip
    refine hx_ei (hr2.2 h2) ?_
    refine lv_if_ne (tgt := 11) hx hb dX7_fields_5 (by decide) (fun c9 => absurd (by decide) c9) (fun _ => ?_)
    refine lv_ldc (v := -2000001) hx hb hown (hts (Cond.constant RX7 66 (-2000001)) (by decide +kernel)) dX7_fields_8 ?_
    exact hx_iret S X hr hlk (Nat.le_of_ble_eq_true rfl) (Nat.le_of_ble_eq_true rfl) (by simp [M_fields, wif_t, wif_f, h2]) dX7_fields_10

set_option maxRecDepth 100000 in
set_option maxHeartbeats 4000000 in
theorem c_X7_stagedFields (l : Launch) (G : hG) (ad : Nat → Nat) (σ : Sg) (type : Int32) (hI : Inv σ) : hMi l G yX7_stagedFields wsX7_stagedFields ({ frames := 3, cells := 0, slots := 0, locals := 64 } : Room) (mW G ad σ) [.ref (ad 0), .int (type)] (fun r w => r = (M_stagedFields σ type).1 ∧ w = mW G ad (M_stagedFields σ type).2) := by
  refine hMi.of (cc := cX7_stagedFields) (maxL := 3) (some .int) RX7 rfl (by decide +kernel) rfl (Nat.le_of_ble_eq_true rfl) ?_
  intro p e s m args below meth c S hr hlk X ls hl
  have hx := S.1
  have hb := S.2.1
  have hown := S.2.2.2.1
  have hts := S.2.2.2.2
  have hl : lv_has ls 3 [(0, .ref (ad 0)), (1, .int (type))] := hl
  have hin7 : ∀ w ∈ wsX70, w ∈ wsX7_stagedFields := by decide +kernel
  have hC6 : nC σ ≤ 6 := hI.1.2
  have hO24 : nO σ ≤ 24 := hI.2.1.2
  refine lv_aload_n hx hb dX7_stagedFields_0 rfl (lv_at hl 0 rfl) ?_
  refine lv_iload_n hx hb dX7_stagedFields_1 rfl (lv_at hl 1 rfl) ?_
  refine hx_Vi (rest := []) S X (c_X7_wrongStage l G ad σ (type) hI) gX7_stagedFields_X7_wrongStage rfl (n := 1) (by decide +kernel) rfl ⟨(Nat.le_of_ble_eq_true rfl), (Nat.le_of_ble_eq_true rfl)⟩ (hx_recvL (q0 := 0) (ci := 7) X rfl (mW_0 _ _ _)) hl.1 rfl (Nat.le_of_ble_eq_true rfl) dX7_stagedFields_2 ⟨(Nat.le_of_ble_eq_true rfl), (Nat.le_of_ble_eq_true rfl)⟩ (fun r wd1 H locs hp X => ?_)
  obtain ⟨rfl, rfl⟩ := hp
  rcases ws_cases hI type with ⟨w1, w2⟩ | ⟨t, ht, rfl, w1, w2⟩ | ⟨t, ht, rfl, w1, w2⟩
  · skip
    refine hx_ei (show _ = (-2000001 : Int32) from w2) ?_
    refine lv_istore_n (lv' := [(2, .int ((-2000001 : Int32))), (0, .ref (ad 0)), (1, .int (type))]) hx hb dX7_stagedFields_5 rfl hl (by decide) rfl (fun ls hl => ?_)
    refine lv_iload_n hx hb dX7_stagedFields_6 rfl (lv_at hl 0 rfl) ?_
    refine lv_if_eq (tgt := 14) hx hb dX7_stagedFields_7 (by decide) (fun c9 => absurd c9 (by decide)) (fun _ => ?_)
    refine lv_iload_n hx hb dX7_stagedFields_10 rfl (lv_at hl 0 rfl) ?_
    refine lv_goto (tgt := 19) hx hb dX7_stagedFields_11 (by decide) ?_
    exact hx_iret S X hr hlk (Nat.le_of_ble_eq_true rfl) (Nat.le_of_ble_eq_true rfl) (by simp [M_stagedFields, wif_t, wif_f, w1, w2]) dX7_stagedFields_19
  · skip
    refine hx_ei (show _ = (-2000008 : Int32) from w2) ?_
    refine lv_istore_n (lv' := [(2, .int ((-2000008 : Int32))), (0, .ref (ad 0)), (1, .int (nI (t)))]) hx hb dX7_stagedFields_5 rfl hl (by decide) rfl (fun ls hl => ?_)
    refine lv_iload_n hx hb dX7_stagedFields_6 rfl (lv_at hl 0 rfl) ?_
    refine lv_if_eq (tgt := 14) hx hb dX7_stagedFields_7 (by decide) (fun c9 => absurd c9 (by decide)) (fun _ => ?_)
    refine lv_iload_n hx hb dX7_stagedFields_10 rfl (lv_at hl 0 rfl) ?_
    refine lv_goto (tgt := 19) hx hb dX7_stagedFields_11 (by decide) ?_
    exact hx_iret S X hr hlk (Nat.le_of_ble_eq_true rfl) (Nat.le_of_ble_eq_true rfl) (by simp [M_stagedFields, wif_t, wif_f, w1, w2]) dX7_stagedFields_19
  · skip
    have hct : (nI t).toNatClampNeg = t := nI_clamp (by omega)
    obtain ⟨⟨hk0, hk1, hk2⟩, hks, hkv⟩ := hI.2.2.1 t ht
    have hk3 : cnt σ t ≤ 7 := hks.elim (fun q => absurd q w1) (fun q => q.2)
    refine hx_ei (show _ = (0 : Int32) from w2) ?_
    refine lv_istore_n (lv' := [(2, .int ((0 : Int32))), (0, .ref (ad 0)), (1, .int (nI (t)))]) hx hb dX7_stagedFields_5 rfl hl (by decide) rfl (fun ls hl => ?_)
    refine lv_iload_n hx hb dX7_stagedFields_6 rfl (lv_at hl 0 rfl) ?_
    refine lv_if_eq (tgt := 14) hx hb dX7_stagedFields_7 (by decide) (fun _ => ?_) (fun c9 => absurd (by decide) c9)
    refine lv_aload_n hx hb dX7_stagedFields_14 rfl (lv_at hl 1 rfl) ?_
    refine lv_iload_n hx hb dX7_stagedFields_15 rfl (lv_at hl 2 rfl) ?_
    refine hx_Vi (rest := []) S X (c_X7_stagedNow l G ad σ (t) hI ht hk3) gX7_stagedFields_X7_stagedNow rfl (n := 1) (by decide +kernel) rfl ⟨(Nat.le_of_ble_eq_true rfl), (Nat.le_of_ble_eq_true rfl)⟩ (hx_recvL (q0 := 0) (ci := 7) X rfl (mW_0 _ _ _)) hl.1 rfl (Nat.le_of_ble_eq_true rfl) dX7_stagedFields_16 ⟨(Nat.le_of_ble_eq_true rfl), (Nat.le_of_ble_eq_true rfl)⟩ (fun r wd1 H locs hp X => ?_)
    obtain ⟨rfl, rfl⟩ := hp
    exact hx_iret S X hr hlk (Nat.le_of_ble_eq_true rfl) (Nat.le_of_ble_eq_true rfl) (by simp [M_stagedFields, wif_t, wif_f, w1, w2, hct]) dX7_stagedFields_19
end
section
noncomputable def M_addClass (σ : Sg) (fields : Int32) : Int32 × Sg := wif (0 ≤ fields ∧ fields ≤ 255) (wif (nC σ = 6) (-2000010, σ) (nI (nC σ), mS (mS (mS σ 1 (162 * nC σ + 0) 1) 1 (162 * nC σ + 2) fields) 0 0 (nI (nC σ + 1)))) (-2000007, σ)
noncomputable def M_stage (σ : Sg) (type : Int32) : Int32 × Sg := wif (isC σ type) (wif (σ 1 (162 * cN type + 1) = 1) (-2000009, σ) (wif (cnt σ (cN type) = 8) (-2000010, σ) (nI (cnt σ (cN type)), mS (mS (mS σ 1 (162 * cN type + 1) 1) 1 (162 * cN type + (2 + cnt σ (cN type))) (σ 1 (162 * cN type + (2 + cnt σ (cN type) - 1)))) 1 (162 * cN type + (10 + cnt σ (cN type))) 0))) (-2000001, σ)
def stB (σ : Sg) (t : Nat) : Nat := 162 * t + (18 + 18 * cnt σ t + 3 * stp σ t (cnt σ t))
noncomputable def M_append (σ : Sg) (t : Nat) (kind one two fs : Int32) : Int32 × Sg := wif (stp σ t (cnt σ t) = 6) (-2000010, σ) (nI (stp σ t (cnt σ t) + 1), mS (mS (mS (mS (mS σ 1 (stB σ t) kind) 1 (stB σ t + 1) one) 1 (stB σ t + 2) two) 1 (162 * t + (10 + cnt σ t)) (nI (stp σ t (cnt σ t) + 1))) 1 (162 * t + (2 + cnt σ t)) fs)
noncomputable def M_addField (σ : Sg) (type field value : Int32) : Int32 × Sg := wif (ws σ type = 0) (wif (isF field ∧ isVal value) (wif (hasF (sset σ (cN type)) field) (-2000009, σ) (M_append σ (cN type) 0 field value (sset σ (cN type) ||| (1 : Int32) <<< (field &&& 31)))) (-2000007, σ)) (ws σ type, σ)
noncomputable def M_dropField (σ : Sg) (type field : Int32) : Int32 × Sg := wif (ws σ type = 0) (wif (hasF (sset σ (cN type)) field) (M_append σ (cN type) 1 field 0 (sset σ (cN type) &&& (((1 : Int32) <<< (field &&& 31)) ^^^ (-1 : Int32)))) (-2000005, σ)) (ws σ type, σ)
noncomputable def M_renameField (σ : Sg) (type fr to : Int32) : Int32 × Sg := wif (ws σ type = 0) (wif (hasF (sset σ (cN type)) fr) (wif (isF to) (wif (hasF (sset σ (cN type)) to) (-2000009, σ) (M_append σ (cN type) 2 fr to ((sset σ (cN type) &&& (((1 : Int32) <<< (fr &&& 31)) ^^^ (-1 : Int32))) ||| (1 : Int32) <<< (to &&& 31)))) (-2000007, σ)) (-2000005, σ)) (ws σ type, σ)
noncomputable def M_scaleField (σ : Sg) (type field factor : Int32) : Int32 × Sg := wif (ws σ type = 0) (wif (hasF (sset σ (cN type)) field) (wif (-100000 ≤ factor ∧ factor ≤ 100000) (M_append σ (cN type) 3 field factor (sset σ (cN type))) (-2000007, σ)) (-2000005, σ)) (ws σ type, σ)
noncomputable def M_mergeField (σ : Sg) (type fr into : Int32) : Int32 × Sg := wif (ws σ type = 0) (wif (hasF (sset σ (cN type)) fr ∧ hasF (sset σ (cN type)) into) (wif (fr = into) (-2000007, σ) (M_append σ (cN type) 4 fr into (sset σ (cN type) &&& (((1 : Int32) <<< (fr &&& 31)) ^^^ (-1 : Int32))))) (-2000005, σ)) (ws σ type, σ)
noncomputable def M_activate (σ : Sg) (type : Int32) : Int32 × Sg := wif (ws σ type = 0) (nI (cnt σ (cN type) + 1) - 1, mS (mS σ 1 (162 * cN type + 1) 0) 1 (162 * cN type + 0) (nI (cnt σ (cN type) + 1))) (ws σ type, σ)
noncomputable def M_discard (σ : Sg) (type : Int32) : Int32 × Sg := wif (ws σ type = 0) (nI (stp σ (cN type) (cnt σ (cN type))), mS σ 1 (162 * cN type + 1) 0) (ws σ type, σ)
/-! threads and frames -/
noncomputable def M_call (σ : Sg) (thread type : Int32) : Int32 × Sg := wif (isT thread) (wif (isC σ type) (wif (dN σ (cN thread) = 8) (-2000010, σ) (nI (dN σ (cN thread) + 1), mS (mS (mS (mS σ 3 (8 * cN thread + dN σ (cN thread)) type) 4 (8 * cN thread + dN σ (cN thread)) (nI (cnt σ (cN type)) - 1)) 5 (8 * cN thread + dN σ (cN thread)) 0) 2 (cN thread) (nI (dN σ (cN thread) + 1)))) (-2000001, σ)) (-2000003, σ)
noncomputable def M_finish (σ : Sg) (thread : Int32) : Int32 × Sg := wif (isT thread) (wif (dN σ (cN thread) = 0) (-2000006, σ) (nI (dN σ (cN thread) - 1), mS σ 2 (cN thread) (nI (dN σ (cN thread) - 1)))) (-2000003, σ)
noncomputable def M_depth (σ : Sg) (thread : Int32) : Int32 × Sg := wif (isT thread) (nI (dN σ (cN thread)), σ) (-2000003, σ)
noncomputable def M_frameClass (σ : Sg) (thread index : Int32) : Int32 × Sg := wif (isT thread) (wif (∃ k, k < dN σ (cN thread) ∧ index = nI k) (σ 3 (8 * cN thread + cN index), σ) (-2000006, σ)) (-2000003, σ)
noncomputable def M_frameVersion (σ : Sg) (thread index : Int32) : Int32 × Sg := wif (isT thread) (wif (∃ k, k < dN σ (cN thread) ∧ index = nI k) (σ 4 (8 * cN thread + cN index), σ) (-2000006, σ)) (-2000003, σ)
/-- how many below n hold p -/
noncomputable def cnp (p : Nat → Prop) : Nat → Nat
  | 0 => 0
  | n + 1 => cnp p n + wif (p n) 1 0
theorem cnp_t {p : Nat → Prop} {n : Nat} (h : p n) : cnp p (n + 1) = cnp p n + 1 := by simp [cnp, wif_t h]
theorem cnp_f {p : Nat → Prop} {n : Nat} (h : ¬ p n) : cnp p (n + 1) = cnp p n := by simp [cnp, wif_f h]
def oldP (σ : Sg) (type : Int32) (j : Nat) : Prop := liv σ j ∧ σ 3 j = type ∧ ¬ σ 4 j = nI (cnt σ (cN type)) - 1
noncomputable def M_oldFrames (σ : Sg) (type : Int32) : Int32 × Sg := wif (isC σ type) (nI (cnp (oldP σ type) 32), σ) (-2000001, σ)
def runP (σ : Sg) (type version : Int32) (j : Nat) : Prop := liv σ j ∧ σ 3 j = type ∧ σ 4 j = version
def helP (σ : Sg) (o v : Int32) (j : Nat) : Prop := liv σ j ∧ pinB (σ 5 j) o ∧ σ 4 j < v
theorem ex_succ {p : Nat → Prop} {n : Nat} : (∃ j, j < n + 1 ∧ p j) ↔ (∃ j, j < n ∧ p j) ∨ p n := by
  constructor
  · rintro ⟨j, hj, h⟩
    rcases Nat.lt_or_ge j n with q | q
    · exact Or.inl ⟨j, q, h⟩
    · exact Or.inr ((show j = n by omega) ▸ h)
  · rintro (⟨j, hj, h⟩ | h)
    · exact ⟨j, by omega, h⟩
    · exact ⟨n, by omega, h⟩
theorem ex_stop {r : Int32} {p : Nat → Prop} {n : Nat} (h : isB r (∃ j, j < n ∧ p j)) (h0 : ¬ r = 0) : isB 1 (∃ j, j < n + 1 ∧ p j) := by
  by_cases q : ∃ j, j < n ∧ p j
  · exact isB_t (ex_succ.mpr (Or.inl q)) rfl
  · exact absurd (h.2 q) h0
theorem ex_yes {p : Nat → Prop} {n : Nat} (h : p n) : isB 1 (∃ j, j < n + 1 ∧ p j) := isB_t (ex_succ.mpr (Or.inr h)) rfl
theorem ex_no {r : Int32} {p : Nat → Prop} {n : Nat} (h : isB r (∃ j, j < n ∧ p j)) (h0 : r = 0) (hp : ¬ p n) : isB 0 (∃ j, j < n + 1 ∧ p j) := by
  refine isB_f (fun q => ?_) rfl
  rcases ex_succ.mp q with q | q
  · rw [h.1 q] at h0
    exact absurd h0 (by decide)
  · exact hp q
theorem ex_0 {p : Nat → Prop} : isB 0 (∃ j, j < 0 ∧ p j) := isB_f (fun ⟨j, hj, _⟩ => by omega) rfl
/-! rollback -/
def dlL (σ : Sg) (o : Nat) : Nat → Sg
  | 0 => mS σ 6 o 0
  | n + 1 => mS (dlL σ o n) 5 n (dlL σ o n 5 n &&& (((1 : Int32) <<< (nI o &&& 31)) ^^^ (-1 : Int32)))
def M_delete (σ : Sg) (o : Nat) : Sg := dlL σ o 32
noncomputable def rbL (σ : Sg) (type ver : Int32) : Nat → Sg
  | 0 => σ
  | n + 1 => wif (¬ rbL σ type ver n 6 n = 0 ∧ rbL σ type ver n 7 n = type ∧ rbL σ type ver n 8 n = ver) (wif (rbL σ type ver n 9 n = ver) (M_delete (rbL σ type ver n) n) (mS (rbL σ type ver n) 8 n (rbL σ type ver n 8 n - 1))) (rbL σ type ver n)
noncomputable def M_rollback (σ : Sg) (type : Int32) : Int32 × Sg := wif (isC σ type) (wif (cnt σ (cN type) - 1 = 0) (-2000002, σ) (wif (∃ j, j < 32 ∧ runP σ type (nI (cnt σ (cN type) - 1)) j) (-2000015, σ) (nI (cnt σ (cN type) - 1) - 1, mS (mS (rbL σ type (nI (cnt σ (cN type) - 1)) (nO σ)) 1 (162 * cN type + 1) 0) 1 (162 * cN type + 0) (nI (cnt σ (cN type) - 1))))) (-2000001, σ)
theorem dlL_k {σ : Sg} {o : Nat} (n : Nat) {k : Nat} (h5 : k ≠ 5) (h6 : k ≠ 6) (j : Nat) : dlL σ o n k j = σ k j := by
  induction n with
  | zero => exact mS_nk _ _ _ _ h6
  | succ n ih => rw [dlL, mS_nk _ _ _ _ h5, ih]
theorem rbL_k {σ : Sg} {type ver : Int32} (n : Nat) {k : Nat} (h5 : k ≠ 5) (h6 : k ≠ 6) (h8 : k ≠ 8) (j : Nat) : rbL σ type ver n k j = σ k j := by
  induction n with
  | zero => rfl
  | succ n ih =>
    rw [rbL]
    by_cases h : (¬ rbL σ type ver n 6 n = 0 ∧ rbL σ type ver n 7 n = type ∧ rbL σ type ver n 8 n = ver)
    · rw [wif_t h]
      by_cases h2 : rbL σ type ver n 9 n = ver
      · rw [wif_t h2, M_delete, dlL_k _ h5 h6, ih]
      · rw [wif_f h2, mS_nk _ _ _ _ h8, ih]
    · rw [wif_f h, ih]
set_option maxRecDepth 100000 in
set_option maxHeartbeats 4000000 in
theorem c_X7_addClass (l : Launch) (G : hG) (ad : Nat → Nat) (σ : Sg) (fields : Int32) (hI : Inv σ) : hMi l G yX7_addClass wsX7_addClass ({ frames := 1, cells := 0, slots := 0, locals := 22 } : Room) (mW G ad σ) [.ref (ad 0), .int (fields)] (fun r w => r = (M_addClass σ fields).1 ∧ w = mW G ad (M_addClass σ fields).2) := by
  refine hMi.of (cc := cX7_addClass) (maxL := 2) (some .int) RX7 rfl (by decide +kernel) rfl (Nat.le_of_ble_eq_true rfl) ?_
  intro p e s m args below meth c S hr hlk X ls hl
  have hx := S.1
  have hb := S.2.1
  have hown := S.2.2.2.1
  have hts := S.2.2.2.2
  have hl : lv_has ls 2 [(0, .ref (ad 0)), (1, .int (fields))] := hl
  have hin7 : ∀ w ∈ wsX70, w ∈ wsX7_addClass := by decide +kernel
  have hC6 : nC σ ≤ 6 := hI.1.2
  have hO24 : nO σ ≤ 24 := hI.2.1.2
  refine lv_iload_n hx hb dX7_addClass_0 rfl (lv_at hl 1 rfl) ?_
  refine lv_iconst (v := 0) hx hb dX7_addClass_1 (by decide) ?_
  refine lv_sipush (v := 255) hx hb dX7_addClass_2 (by decide) ?_
  refine hx_Si (rest := []) S X (c_X7_in l G _ (fields) ((0 : Int32)) ((255 : Int32))) gX7_addClass_X7_in rfl (n := 3) (by decide +kernel) rfl ⟨(Nat.le_of_ble_eq_true rfl), (Nat.le_of_ble_eq_true rfl)⟩ hl.1 rfl (Nat.le_of_ble_eq_true rfl) dX7_addClass_5 ⟨(Nat.le_of_ble_eq_true rfl), (Nat.le_of_ble_eq_true rfl)⟩ (fun r wd1 H locs hp X => ?_)
  obtain ⟨hr5, rfl⟩ := hp
  by_cases h5 : 0 ≤ fields ∧ fields ≤ 255
  · skip
    refine hx_ei (hr5.1 h5) ?_
    refine lv_if_ne (tgt := 14) hx hb dX7_addClass_8 (by decide) (fun _ => ?_) (fun c9 => absurd c9 (by decide))
    refine lv_aload_n hx hb dX7_addClass_14 rfl (lv_at hl 0 rfl) ?_
    refine hx_getL S X (ci := 7) 0 (mW_0 _ _ _) rfl hin7 0 (by decide) (by decide +kernel) rfl dX7_addClass_15 ?_
    refine hx_ei (show _ = nI (nC σ) from hI.1.1) ?_
    refine lv_bipush (v := 6) hx hb dX7_addClass_18 (by decide) ?_
    refine lv_icmp_ne (tgt := 26) hx hb dX7_addClass_20 (by decide) (fun c20 => ?_) (fun c20 => ?_)
    · skip
      have c20 := (not_congr (nI_eq (a := nC σ) (b := 6) (by omega) (by omega))).mp c20
      refine lv_aload_n hx hb dX7_addClass_26 rfl (lv_at hl 0 rfl) ?_
      refine hx_getL S X (ci := 7) 0 (mW_0 _ _ _) rfl hin7 1 (by decide) (by decide +kernel) rfl dX7_addClass_27 ?_
      refine lv_aload_n hx hb dX7_addClass_30 rfl (lv_at hl 0 rfl) ?_
      refine hx_getL S X (ci := 7) 0 (mW_0 _ _ _) rfl hin7 0 (by decide) (by decide +kernel) rfl dX7_addClass_31 ?_
      refine hx_ei (show _ = nI (nC σ) from hI.1.1) ?_
      refine lv_iconst (v := 0) hx hb dX7_addClass_34 (by decide) ?_
      refine hx_Si (rest := [.ref (ad 1)]) S X (c_X7_at l G _ (nC σ) (0)) gX7_addClass_X7_at rfl (n := 2) (by decide +kernel) rfl ⟨(Nat.le_of_ble_eq_true rfl), (Nat.le_of_ble_eq_true rfl)⟩ hl.1 rfl (Nat.le_of_ble_eq_true rfl) dX7_addClass_35 ⟨(Nat.le_of_ble_eq_true rfl), (Nat.le_of_ble_eq_true rfl)⟩ (fun r wd1 H locs hp X => ?_)
      obtain ⟨rfl, rfl⟩ := hp
      refine lv_iconst (v := 1) hx hb dX7_addClass_38 (by decide) ?_
      refine mx_st S X 1 (N := 972) (mW_1 _ _ _) (j := 162 * (nC σ) + 0) (by omega) (by decide) (x := (1 : Int32)) dX7_addClass_39 (mW_s1 _ _ _ _ _) (fun H locs X => ?_)
      refine lv_aload_n hx hb dX7_addClass_40 rfl (lv_at hl 0 rfl) ?_
      refine hx_getL S X (ci := 7) 0 (mW_0 _ _ _) rfl hin7 1 (by decide) (by decide +kernel) rfl dX7_addClass_41 ?_
      refine lv_aload_n hx hb dX7_addClass_44 rfl (lv_at hl 0 rfl) ?_
      refine hx_getL S X (ci := 7) 0 (mW_0 _ _ _) rfl hin7 0 (by decide) (by decide +kernel) rfl dX7_addClass_45 ?_
      refine hx_ei (show _ = nI (nC σ) from by rw [mS_nk _ _ _ _ (by decide)]; exact hI.1.1) ?_
      refine lv_iconst (v := 2) hx hb dX7_addClass_48 (by decide) ?_
      refine hx_Si (rest := [.ref (ad 1)]) S X (c_X7_at l G _ (nC σ) (2)) gX7_addClass_X7_at rfl (n := 2) (by decide +kernel) rfl ⟨(Nat.le_of_ble_eq_true rfl), (Nat.le_of_ble_eq_true rfl)⟩ hl.1 rfl (Nat.le_of_ble_eq_true rfl) dX7_addClass_49 ⟨(Nat.le_of_ble_eq_true rfl), (Nat.le_of_ble_eq_true rfl)⟩ (fun r wd1 H locs hp X => ?_)
      obtain ⟨rfl, rfl⟩ := hp
      refine lv_iload_n hx hb dX7_addClass_52 rfl (lv_at hl 1 rfl) ?_
      refine mx_st S X 1 (N := 972) (mW_1 _ _ _) (j := 162 * (nC σ) + 2) (by omega) (by decide) (x := fields) dX7_addClass_53 (mW_s1 _ _ _ _ _) (fun H locs X => ?_)
      refine lv_aload_n hx hb dX7_addClass_54 rfl (lv_at hl 0 rfl) ?_
      refine lv_dup hx hb dX7_addClass_55 rfl ?_
      refine hx_getL S X (ci := 7) 0 (mW_0 _ _ _) rfl hin7 0 (by decide) (by decide +kernel) rfl dX7_addClass_56 ?_
      refine hx_ei (show _ = nI (nC σ) from by rw [mS_nk _ _ _ _ (by decide), mS_nk _ _ _ _ (by decide)]; exact hI.1.1) ?_
      refine lv_iconst (v := 1) hx hb dX7_addClass_59 (by decide) ?_
      refine lv_iadd hx hb dX7_addClass_60 ?_
      refine hx_ei (show _ = nI (nC σ + 1) from nI_add (nC σ) (1)) ?_
      refine hx_putL S X (ci := 7) tyX7_ok nmX7 0 (mW_0 _ _ _) rfl hin7 0 (by decide) (by decide +kernel) rfl rfl rfl (Nat.le_of_ble_eq_true rfl) dX7_addClass_61 (wd' := mW G ad (mS (mS (mS σ 1 (162 * (nC σ) + 0) ((1 : Int32))) 1 (162 * (nC σ) + 2) (fields)) 0 0 (nI (nC σ + 1)))) (mW_pc _ _ _ _) (fun H locs X => ?_)
      refine lv_aload_n hx hb dX7_addClass_64 rfl (lv_at hl 0 rfl) ?_
      refine hx_getL S X (ci := 7) 0 (mW_0 _ _ _) rfl hin7 0 (by decide) (by decide +kernel) rfl dX7_addClass_65 ?_
      refine hx_ei (show _ = nI (nC σ + 1) from by rw [mS_eq]) ?_
      refine lv_iconst (v := 1) hx hb dX7_addClass_68 (by decide) ?_
      refine lv_isub hx hb dX7_addClass_69 ?_
      refine hx_ei (show _ = nI (nC σ) from nI_pred (nC σ)) ?_
      exact hx_iret S X hr hlk (Nat.le_of_ble_eq_true rfl) (Nat.le_of_ble_eq_true rfl) (by simp [M_addClass, wif_t, wif_f, h5, c20]) dX7_addClass_70
    · skip
      have c20 := (nI_eq (a := nC σ) (b := 6) (by omega) (by omega)).mp c20
      refine lv_ldc (v := -2000010) hx hb hown (hts (Cond.constant RX7 57 (-2000010)) (by decide +kernel)) dX7_addClass_23 ?_
      exact hx_iret S X hr hlk (Nat.le_of_ble_eq_true rfl) (Nat.le_of_ble_eq_true rfl) (by simp [M_addClass, wif_t, wif_f, h5, c20]) dX7_addClass_25
  · skip
    refine hx_ei (hr5.2 h5) ?_
    refine lv_if_ne (tgt := 14) hx hb dX7_addClass_8 (by decide) (fun c9 => absurd (by decide) c9) (fun _ => ?_)
    refine lv_ldc (v := -2000007) hx hb hown (hts (Cond.constant RX7 56 (-2000007)) (by decide +kernel)) dX7_addClass_11 ?_
    exact hx_iret S X hr hlk (Nat.le_of_ble_eq_true rfl) (Nat.le_of_ble_eq_true rfl) (by simp [M_addClass, wif_t, wif_f, h5]) dX7_addClass_13

set_option maxRecDepth 100000 in
set_option maxHeartbeats 4000000 in
theorem c_X7_stage (l : Launch) (G : hG) (ad : Nat → Nat) (σ : Sg) (type : Int32) (hI : Inv σ) : hMi l G yX7_stage wsX7_stage ({ frames := 2, cells := 0, slots := 0, locals := 43 } : Room) (mW G ad σ) [.ref (ad 0), .int (type)] (fun r w => r = (M_stage σ type).1 ∧ w = mW G ad (M_stage σ type).2) := by
  refine hMi.of (cc := cX7_stage) (maxL := 3) (some .int) RX7 rfl (by decide +kernel) rfl (Nat.le_of_ble_eq_true rfl) ?_
  intro p e s m args below meth c S hr hlk X ls hl
  have hx := S.1
  have hb := S.2.1
  have hown := S.2.2.2.1
  have hts := S.2.2.2.2
  have hl : lv_has ls 3 [(0, .ref (ad 0)), (1, .int (type))] := hl
  have hin7 : ∀ w ∈ wsX70, w ∈ wsX7_stage := by decide +kernel
  have hC6 : nC σ ≤ 6 := hI.1.2
  have hO24 : nO σ ≤ 24 := hI.2.1.2
  refine lv_aload_n hx hb dX7_stage_0 rfl (lv_at hl 0 rfl) ?_
  refine lv_iload_n hx hb dX7_stage_1 rfl (lv_at hl 1 rfl) ?_
  refine hx_Vi (rest := []) S X (c_X7_isClass l G ad σ (type) hI) gX7_stage_X7_isClass rfl (n := 1) (by decide +kernel) rfl ⟨(Nat.le_of_ble_eq_true rfl), (Nat.le_of_ble_eq_true rfl)⟩ (hx_recvL (q0 := 0) (ci := 7) X rfl (mW_0 _ _ _)) hl.1 rfl (Nat.le_of_ble_eq_true rfl) dX7_stage_2 ⟨(Nat.le_of_ble_eq_true rfl), (Nat.le_of_ble_eq_true rfl)⟩ (fun r wd1 H locs hp X => ?_)
  obtain ⟨hr2, rfl⟩ := hp
  by_cases h2 : isC σ (type)
  · skip
    refine hx_ei (hr2.1 h2) ?_
    have h2' := h2
    obtain ⟨t, ht, rfl⟩ := h2
    have hct : (nI t).toNatClampNeg = t := nI_clamp (by omega)
    obtain ⟨⟨hk0, hk1, hk2⟩, hks, hkv⟩ := hI.2.2.1 t ht
    refine lv_if_ne (tgt := 11) hx hb dX7_stage_5 (by decide) (fun _ => ?_) (fun c9 => absurd c9 (by decide))
    refine lv_aload_n hx hb dX7_stage_11 rfl (lv_at hl 0 rfl) ?_
    refine lv_iload_n hx hb dX7_stage_12 rfl (lv_at hl 1 rfl) ?_
    refine lv_iconst (v := 1) hx hb dX7_stage_13 (by decide) ?_
    refine hx_Vi (rest := []) S X (c_X7_of l G ad σ (t) (1) (by omega)) gX7_stage_X7_of rfl (n := 2) (by decide +kernel) rfl ⟨(Nat.le_of_ble_eq_true rfl), (Nat.le_of_ble_eq_true rfl)⟩ (hx_recvL (q0 := 0) (ci := 7) X rfl (mW_0 _ _ _)) hl.1 rfl (Nat.le_of_ble_eq_true rfl) dX7_stage_14 ⟨(Nat.le_of_ble_eq_true rfl), (Nat.le_of_ble_eq_true rfl)⟩ (fun r wd1 H locs hp X => ?_)
    obtain ⟨rfl, rfl⟩ := hp
    refine hx_ei (show _ = σ 1 (162 * t + 1) from rfl) ?_
    refine lv_iconst (v := 1) hx hb dX7_stage_17 (by decide) ?_
    refine lv_icmp_ne (tgt := 24) hx hb dX7_stage_18 (by decide) (fun c18 => ?_) (fun c18 => ?_)
    · skip
      refine lv_aload_n hx hb dX7_stage_24 rfl (lv_at hl 0 rfl) ?_
      refine lv_iload_n hx hb dX7_stage_25 rfl (lv_at hl 1 rfl) ?_
      refine lv_iconst (v := 0) hx hb dX7_stage_26 (by decide) ?_
      refine hx_Vi (rest := []) S X (c_X7_of l G ad σ (t) (0) (by omega)) gX7_stage_X7_of rfl (n := 2) (by decide +kernel) rfl ⟨(Nat.le_of_ble_eq_true rfl), (Nat.le_of_ble_eq_true rfl)⟩ (hx_recvL (q0 := 0) (ci := 7) X rfl (mW_0 _ _ _)) hl.1 rfl (Nat.le_of_ble_eq_true rfl) dX7_stage_27 ⟨(Nat.le_of_ble_eq_true rfl), (Nat.le_of_ble_eq_true rfl)⟩ (fun r wd1 H locs hp X => ?_)
      obtain ⟨rfl, rfl⟩ := hp
      refine hx_ei (show _ = nI (cnt σ t) from hk0) ?_
      refine lv_istore_n (lv' := [(2, .int (nI (cnt σ t))), (0, .ref (ad 0)), (1, .int (nI (t)))]) hx hb dX7_stage_30 rfl hl (by decide) rfl (fun ls hl => ?_)
      refine lv_iload_n hx hb dX7_stage_31 rfl (lv_at hl 0 rfl) ?_
      refine lv_bipush (v := 8) hx hb dX7_stage_32 (by decide) ?_
      refine lv_icmp_ne (tgt := 40) hx hb dX7_stage_34 (by decide) (fun c34 => ?_) (fun c34 => ?_)
      · skip
        have c34 := (not_congr (nI_eq (a := cnt σ t) (b := 8) (by omega) (by omega))).mp c34
        refine lv_aload_n hx hb dX7_stage_40 rfl (lv_at hl 1 rfl) ?_
        refine hx_getL S X (ci := 7) 0 (mW_0 _ _ _) rfl hin7 1 (by decide) (by decide +kernel) rfl dX7_stage_41 ?_
        refine lv_iload_n hx hb dX7_stage_44 rfl (lv_at hl 2 rfl) ?_
        refine lv_iconst (v := 1) hx hb dX7_stage_45 (by decide) ?_
        refine hx_Si (rest := [.ref (ad 1)]) S X (c_X7_at l G _ (t) (1)) gX7_stage_X7_at rfl (n := 2) (by decide +kernel) rfl ⟨(Nat.le_of_ble_eq_true rfl), (Nat.le_of_ble_eq_true rfl)⟩ hl.1 rfl (Nat.le_of_ble_eq_true rfl) dX7_stage_46 ⟨(Nat.le_of_ble_eq_true rfl), (Nat.le_of_ble_eq_true rfl)⟩ (fun r wd1 H locs hp X => ?_)
        obtain ⟨rfl, rfl⟩ := hp
        refine lv_iconst (v := 1) hx hb dX7_stage_49 (by decide) ?_
        refine mx_st S X 1 (N := 972) (mW_1 _ _ _) (j := 162 * t + 1) (by omega) (by decide) (x := (1 : Int32)) dX7_stage_50 (mW_s1 _ _ _ _ _) (fun H locs X => ?_)
        refine lv_aload_n hx hb dX7_stage_51 rfl (lv_at hl 1 rfl) ?_
        refine hx_getL S X (ci := 7) 0 (mW_0 _ _ _) rfl hin7 1 (by decide) (by decide +kernel) rfl dX7_stage_52 ?_
        refine lv_iload_n hx hb dX7_stage_55 rfl (lv_at hl 2 rfl) ?_
        refine lv_iconst (v := 2) hx hb dX7_stage_56 (by decide) ?_
        refine lv_iload_n hx hb dX7_stage_57 rfl (lv_at hl 0 rfl) ?_
        refine lv_iadd hx hb dX7_stage_58 ?_
        refine hx_ei (show _ = nI (2 + cnt σ t) from nI_add (2) (cnt σ t)) ?_
        refine hx_Si (rest := [.ref (ad 1)]) S X (c_X7_at l G _ (t) (2 + cnt σ t)) gX7_stage_X7_at rfl (n := 2) (by decide +kernel) rfl ⟨(Nat.le_of_ble_eq_true rfl), (Nat.le_of_ble_eq_true rfl)⟩ hl.1 rfl (Nat.le_of_ble_eq_true rfl) dX7_stage_59 ⟨(Nat.le_of_ble_eq_true rfl), (Nat.le_of_ble_eq_true rfl)⟩ (fun r wd1 H locs hp X => ?_)
        obtain ⟨rfl, rfl⟩ := hp
        refine lv_aload_n hx hb dX7_stage_62 rfl (lv_at hl 1 rfl) ?_
        refine lv_iload_n hx hb dX7_stage_63 rfl (lv_at hl 2 rfl) ?_
        refine lv_iconst (v := 2) hx hb dX7_stage_64 (by decide) ?_
        refine lv_iload_n hx hb dX7_stage_65 rfl (lv_at hl 0 rfl) ?_
        refine lv_iadd hx hb dX7_stage_66 ?_
        refine hx_ei (show _ = nI (2 + cnt σ t) from nI_add (2) (cnt σ t)) ?_
        refine lv_iconst (v := 1) hx hb dX7_stage_67 (by decide) ?_
        refine lv_isub hx hb dX7_stage_68 ?_
        refine hx_ei (show _ = nI ((2 + cnt σ t) - (1)) from pk_sub (a := 2 + cnt σ t) (b := 1) (by omega)) ?_
        refine hx_Vi (rest := [.int (nI (162 * t + (2 + cnt σ t))), .ref (ad 1)]) S X (c_X7_of l G ad (mS σ 1 (162 * t + 1) ((1 : Int32))) (t) ((2 + cnt σ t) - (1)) (by omega)) gX7_stage_X7_of rfl (n := 2) (by decide +kernel) rfl ⟨(Nat.le_of_ble_eq_true rfl), (Nat.le_of_ble_eq_true rfl)⟩ (hx_recvL (q0 := 0) (ci := 7) X rfl (mW_0 _ _ _)) hl.1 rfl (Nat.le_of_ble_eq_true rfl) dX7_stage_69 ⟨(Nat.le_of_ble_eq_true rfl), (Nat.le_of_ble_eq_true rfl)⟩ (fun r wd1 H locs hp X => ?_)
        obtain ⟨rfl, rfl⟩ := hp
        refine hx_ei (show _ = σ 1 (162 * t + ((2 + cnt σ t) - (1))) from by rw [mS_ne _ _ _ (by omega)]) ?_
        refine mx_st S X 1 (N := 972) (mW_1 _ _ _) (j := 162 * t + (2 + cnt σ t)) (by omega) (by decide) (x := σ 1 (162 * t + ((2 + cnt σ t) - (1)))) dX7_stage_72 (mW_s1 _ _ _ _ _) (fun H locs X => ?_)
        refine lv_aload_n hx hb dX7_stage_73 rfl (lv_at hl 1 rfl) ?_
        refine hx_getL S X (ci := 7) 0 (mW_0 _ _ _) rfl hin7 1 (by decide) (by decide +kernel) rfl dX7_stage_74 ?_
        refine lv_iload_n hx hb dX7_stage_77 rfl (lv_at hl 2 rfl) ?_
        refine lv_bipush (v := 10) hx hb dX7_stage_78 (by decide) ?_
        refine lv_iload_n hx hb dX7_stage_80 rfl (lv_at hl 0 rfl) ?_
        refine lv_iadd hx hb dX7_stage_81 ?_
        refine hx_ei (show _ = nI (10 + cnt σ t) from nI_add (10) (cnt σ t)) ?_
        refine hx_Si (rest := [.ref (ad 1)]) S X (c_X7_at l G _ (t) (10 + cnt σ t)) gX7_stage_X7_at rfl (n := 2) (by decide +kernel) rfl ⟨(Nat.le_of_ble_eq_true rfl), (Nat.le_of_ble_eq_true rfl)⟩ hl.1 rfl (Nat.le_of_ble_eq_true rfl) dX7_stage_82 ⟨(Nat.le_of_ble_eq_true rfl), (Nat.le_of_ble_eq_true rfl)⟩ (fun r wd1 H locs hp X => ?_)
        obtain ⟨rfl, rfl⟩ := hp
        refine lv_iconst (v := 0) hx hb dX7_stage_85 (by decide) ?_
        refine mx_st S X 1 (N := 972) (mW_1 _ _ _) (j := 162 * t + (10 + cnt σ t)) (by omega) (by decide) (x := (0 : Int32)) dX7_stage_86 (mW_s1 _ _ _ _ _) (fun H locs X => ?_)
        refine lv_iload_n hx hb dX7_stage_87 rfl (lv_at hl 0 rfl) ?_
        exact hx_iret S X hr hlk (Nat.le_of_ble_eq_true rfl) (Nat.le_of_ble_eq_true rfl) (by simp [M_stage, wif_t, wif_f, h2', hct, c18, c34]) dX7_stage_88
      · skip
        have c34 := (nI_eq (a := cnt σ t) (b := 8) (by omega) (by omega)).mp c34
        refine lv_ldc (v := -2000010) hx hb hown (hts (Cond.constant RX7 57 (-2000010)) (by decide +kernel)) dX7_stage_37 ?_
        exact hx_iret S X hr hlk (Nat.le_of_ble_eq_true rfl) (Nat.le_of_ble_eq_true rfl) (by simp [M_stage, wif_t, wif_f, h2', hct, c18, c34]) dX7_stage_39
    · skip
      refine lv_ldc (v := -2000009) hx hb hown (hts (Cond.constant RX7 68 (-2000009)) (by decide +kernel)) dX7_stage_21 ?_
      exact hx_iret S X hr hlk (Nat.le_of_ble_eq_true rfl) (Nat.le_of_ble_eq_true rfl) (by simp [M_stage, wif_t, wif_f, h2', hct, c18]) dX7_stage_23
  · skip
    refine hx_ei (hr2.2 h2) ?_
    refine lv_if_ne (tgt := 11) hx hb dX7_stage_5 (by decide) (fun c9 => absurd (by decide) c9) (fun _ => ?_)
    refine lv_ldc (v := -2000001) hx hb hown (hts (Cond.constant RX7 66 (-2000001)) (by decide +kernel)) dX7_stage_8 ?_
    exact hx_iret S X hr hlk (Nat.le_of_ble_eq_true rfl) (Nat.le_of_ble_eq_true rfl) (by simp [M_stage, wif_t, wif_f, h2]) dX7_stage_10

set_option maxRecDepth 100000 in
set_option maxHeartbeats 4000000 in
theorem c_X7_append (l : Launch) (G : hG) (ad : Nat → Nat) (σ : Sg) (t : Nat) (kind one two fs : Int32) (hI : Inv σ) (ht : t < nC σ) (h7 : cnt σ t ≤ 7) : hMi l G yX7_append wsX7_append ({ frames := 2, cells := 0, slots := 0, locals := 43 } : Room) (mW G ad σ) [.ref (ad 0), .int (nI (t)), .int (kind), .int (one), .int (two), .int (fs)] (fun r w => r = (M_append σ t kind one two fs).1 ∧ w = mW G ad (M_append σ t kind one two fs).2) := by
  refine hMi.of (cc := cX7_append) (maxL := 9) (some .int) RX7 rfl (by decide +kernel) rfl (Nat.le_of_ble_eq_true rfl) ?_
  intro p e s m args below meth c S hr hlk X ls hl
  have hx := S.1
  have hb := S.2.1
  have hown := S.2.2.2.1
  have hts := S.2.2.2.2
  have hl : lv_has ls 9 [(0, .ref (ad 0)), (1, .int (nI (t))), (2, .int (kind)), (3, .int (one)), (4, .int (two)), (5, .int (fs))] := hl
  have hin7 : ∀ w ∈ wsX70, w ∈ wsX7_append := by decide +kernel
  have hC6 : nC σ ≤ 6 := hI.1.2
  obtain ⟨⟨hk0, hk1, hk2⟩, hks, hkv⟩ := hI.2.2.1 t ht
  obtain ⟨⟨hn0, hn1⟩, -⟩ := hkv (cnt σ t) (by omega)
  refine lv_aload_n hx hb dX7_append_0 rfl (lv_at hl 0 rfl) ?_
  refine lv_iload_n hx hb dX7_append_1 rfl (lv_at hl 1 rfl) ?_
  refine lv_iconst (v := 0) hx hb dX7_append_2 (by decide) ?_
  refine hx_Vi (rest := []) S X (c_X7_of l G ad σ (t) (0) (by omega)) gX7_append_X7_of rfl (n := 2) (by decide +kernel) rfl ⟨(Nat.le_of_ble_eq_true rfl), (Nat.le_of_ble_eq_true rfl)⟩ (hx_recvL (q0 := 0) (ci := 7) X rfl (mW_0 _ _ _)) hl.1 rfl (Nat.le_of_ble_eq_true rfl) dX7_append_3 ⟨(Nat.le_of_ble_eq_true rfl), (Nat.le_of_ble_eq_true rfl)⟩ (fun r wd1 H locs hp X => ?_)
  obtain ⟨rfl, rfl⟩ := hp
  refine hx_ei (show _ = nI (cnt σ t) from hk0) ?_
  refine lv_istore (lv' := [(6, .int (nI (cnt σ t))), (0, .ref (ad 0)), (1, .int (nI (t))), (2, .int (kind)), (3, .int (one)), (4, .int (two)), (5, .int (fs))]) hx hb dX7_append_6 hl (by decide) rfl (fun ls hl => ?_)
  refine lv_aload_n hx hb dX7_append_8 rfl (lv_at hl 1 rfl) ?_
  refine lv_iload_n hx hb dX7_append_9 rfl (lv_at hl 2 rfl) ?_
  refine lv_bipush (v := 10) hx hb dX7_append_10 (by decide) ?_
  refine lv_iload hx hb dX7_append_12 (lv_at hl 0 rfl) ?_
  refine lv_iadd hx hb dX7_append_14 ?_
  refine hx_ei (show _ = nI (10 + cnt σ t) from nI_add (10) (cnt σ t)) ?_
  refine hx_Vi (rest := []) S X (c_X7_of l G ad σ (t) (10 + cnt σ t) (by omega)) gX7_append_X7_of rfl (n := 2) (by decide +kernel) rfl ⟨(Nat.le_of_ble_eq_true rfl), (Nat.le_of_ble_eq_true rfl)⟩ (hx_recvL (q0 := 0) (ci := 7) X rfl (mW_0 _ _ _)) hl.1 rfl (Nat.le_of_ble_eq_true rfl) dX7_append_15 ⟨(Nat.le_of_ble_eq_true rfl), (Nat.le_of_ble_eq_true rfl)⟩ (fun r wd1 H locs hp X => ?_)
  obtain ⟨rfl, rfl⟩ := hp
  refine hx_ei (show _ = nI (stp σ t (cnt σ t)) from hn0) ?_
  refine lv_istore (lv' := [(7, .int (nI (stp σ t (cnt σ t)))), (6, .int (nI (cnt σ t))), (0, .ref (ad 0)), (1, .int (nI (t))), (2, .int (kind)), (3, .int (one)), (4, .int (two)), (5, .int (fs))]) hx hb dX7_append_18 hl (by decide) rfl (fun ls hl => ?_)
  refine lv_iload hx hb dX7_append_20 (lv_at hl 0 rfl) ?_
  refine lv_bipush (v := 6) hx hb dX7_append_22 (by decide) ?_
  refine lv_icmp_ne (tgt := 30) hx hb dX7_append_24 (by decide) (fun c24 => ?_) (fun c24 => ?_)
  · skip
    have c24 := (not_congr (nI_eq (a := stp σ t (cnt σ t)) (b := 6) (by omega) (by omega))).mp c24
    refine lv_iload_n hx hb dX7_append_30 rfl (lv_at hl 3 rfl) ?_
    refine lv_bipush (v := 18) hx hb dX7_append_31 (by decide) ?_
    refine lv_bipush (v := 18) hx hb dX7_append_33 (by decide) ?_
    refine lv_iload hx hb dX7_append_35 (lv_at hl 1 rfl) ?_
    refine lv_imul hx hb dX7_append_37 ?_
    refine hx_ei (show _ = nI ((18) * (cnt σ t)) from pk_mul (18) (cnt σ t)) ?_
    refine lv_iadd hx hb dX7_append_38 ?_
    refine hx_ei (show _ = nI (18 + (18) * (cnt σ t)) from nI_add (18) ((18) * (cnt σ t))) ?_
    refine lv_iconst (v := 3) hx hb dX7_append_39 (by decide) ?_
    refine lv_iload hx hb dX7_append_40 (lv_at hl 0 rfl) ?_
    refine lv_imul hx hb dX7_append_42 ?_
    refine hx_ei (show _ = nI ((3) * (stp σ t (cnt σ t))) from pk_mul (3) (stp σ t (cnt σ t))) ?_
    refine lv_iadd hx hb dX7_append_43 ?_
    refine hx_ei (show _ = nI (18 + (18) * (cnt σ t) + (3) * (stp σ t (cnt σ t))) from nI_add (18 + (18) * (cnt σ t)) ((3) * (stp σ t (cnt σ t)))) ?_
    refine hx_Si (rest := []) S X (c_X7_at l G _ (t) (18 + (18) * (cnt σ t) + (3) * (stp σ t (cnt σ t)))) gX7_append_X7_at rfl (n := 2) (by decide +kernel) rfl ⟨(Nat.le_of_ble_eq_true rfl), (Nat.le_of_ble_eq_true rfl)⟩ hl.1 rfl (Nat.le_of_ble_eq_true rfl) dX7_append_44 ⟨(Nat.le_of_ble_eq_true rfl), (Nat.le_of_ble_eq_true rfl)⟩ (fun r wd1 H locs hp X => ?_)
    obtain ⟨rfl, rfl⟩ := hp
    refine lv_istore (lv' := [(8, .int (nI (162 * t + (18 + (18) * (cnt σ t) + (3) * (stp σ t (cnt σ t)))))), (7, .int (nI (stp σ t (cnt σ t)))), (6, .int (nI (cnt σ t))), (0, .ref (ad 0)), (1, .int (nI (t))), (2, .int (kind)), (3, .int (one)), (4, .int (two)), (5, .int (fs))]) hx hb dX7_append_47 hl (by decide) rfl (fun ls hl => ?_)
    refine lv_aload_n hx hb dX7_append_49 rfl (lv_at hl 3 rfl) ?_
    refine hx_getL S X (ci := 7) 0 (mW_0 _ _ _) rfl hin7 1 (by decide) (by decide +kernel) rfl dX7_append_50 ?_
    refine lv_iload hx hb dX7_append_53 (lv_at hl 0 rfl) ?_
    refine lv_iload_n hx hb dX7_append_55 rfl (lv_at hl 5 rfl) ?_
    refine mx_st S X 1 (N := 972) (mW_1 _ _ _) (j := 162 * t + (18 + (18) * (cnt σ t) + (3) * (stp σ t (cnt σ t)))) (by omega) (by decide) (x := kind) dX7_append_56 (mW_s1 _ _ _ _ _) (fun H locs X => ?_)
    refine lv_aload_n hx hb dX7_append_57 rfl (lv_at hl 3 rfl) ?_
    refine hx_getL S X (ci := 7) 0 (mW_0 _ _ _) rfl hin7 1 (by decide) (by decide +kernel) rfl dX7_append_58 ?_
    refine lv_iload hx hb dX7_append_61 (lv_at hl 0 rfl) ?_
    refine lv_iconst (v := 1) hx hb dX7_append_63 (by decide) ?_
    refine lv_iadd hx hb dX7_append_64 ?_
    refine hx_ei (show _ = nI (162 * t + (18 + (18) * (cnt σ t) + (3) * (stp σ t (cnt σ t))) + 1) from nI_add (162 * t + (18 + (18) * (cnt σ t) + (3) * (stp σ t (cnt σ t)))) (1)) ?_
    refine lv_iload_n hx hb dX7_append_65 rfl (lv_at hl 6 rfl) ?_
    refine mx_st S X 1 (N := 972) (mW_1 _ _ _) (j := 162 * t + (18 + (18) * (cnt σ t) + (3) * (stp σ t (cnt σ t))) + 1) (by omega) (by decide) (x := one) dX7_append_66 (mW_s1 _ _ _ _ _) (fun H locs X => ?_)
    refine lv_aload_n hx hb dX7_append_67 rfl (lv_at hl 3 rfl) ?_
    refine hx_getL S X (ci := 7) 0 (mW_0 _ _ _) rfl hin7 1 (by decide) (by decide +kernel) rfl dX7_append_68 ?_
    refine lv_iload hx hb dX7_append_71 (lv_at hl 0 rfl) ?_
    refine lv_iconst (v := 2) hx hb dX7_append_73 (by decide) ?_
    refine lv_iadd hx hb dX7_append_74 ?_
    refine hx_ei (show _ = nI (162 * t + (18 + (18) * (cnt σ t) + (3) * (stp σ t (cnt σ t))) + 2) from nI_add (162 * t + (18 + (18) * (cnt σ t) + (3) * (stp σ t (cnt σ t)))) (2)) ?_
    refine lv_iload hx hb dX7_append_75 (lv_at hl 7 rfl) ?_
    refine mx_st S X 1 (N := 972) (mW_1 _ _ _) (j := 162 * t + (18 + (18) * (cnt σ t) + (3) * (stp σ t (cnt σ t))) + 2) (by omega) (by decide) (x := two) dX7_append_77 (mW_s1 _ _ _ _ _) (fun H locs X => ?_)
    refine lv_aload_n hx hb dX7_append_78 rfl (lv_at hl 3 rfl) ?_
    refine hx_getL S X (ci := 7) 0 (mW_0 _ _ _) rfl hin7 1 (by decide) (by decide +kernel) rfl dX7_append_79 ?_
    refine lv_iload_n hx hb dX7_append_82 rfl (lv_at hl 4 rfl) ?_
    refine lv_bipush (v := 10) hx hb dX7_append_83 (by decide) ?_
    refine lv_iload hx hb dX7_append_85 (lv_at hl 2 rfl) ?_
    refine lv_iadd hx hb dX7_append_87 ?_
    refine hx_ei (show _ = nI (10 + cnt σ t) from nI_add (10) (cnt σ t)) ?_
    refine hx_Si (rest := [.ref (ad 1)]) S X (c_X7_at l G _ (t) (10 + cnt σ t)) gX7_append_X7_at rfl (n := 2) (by decide +kernel) rfl ⟨(Nat.le_of_ble_eq_true rfl), (Nat.le_of_ble_eq_true rfl)⟩ hl.1 rfl (Nat.le_of_ble_eq_true rfl) dX7_append_88 ⟨(Nat.le_of_ble_eq_true rfl), (Nat.le_of_ble_eq_true rfl)⟩ (fun r wd1 H locs hp X => ?_)
    obtain ⟨rfl, rfl⟩ := hp
    refine lv_dup2_11 hx hb dX7_append_91 rfl rfl ?_
    refine mx_ld S X 1 (N := 972) (mW_1 _ _ _) (j := 162 * t + (10 + cnt σ t)) (by omega) (by decide) (x := nI (stp σ t (cnt σ t))) (by rw [mS_ne _ _ _ (by omega), mS_ne _ _ _ (by omega), mS_ne _ _ _ (by omega)]; exact hn0) dX7_append_92 ?_
    refine lv_iconst (v := 1) hx hb dX7_append_93 (by decide) ?_
    refine lv_iadd hx hb dX7_append_94 ?_
    refine hx_ei (show _ = nI (stp σ t (cnt σ t) + 1) from nI_add (stp σ t (cnt σ t)) (1)) ?_
    refine mx_st S X 1 (N := 972) (mW_1 _ _ _) (j := 162 * t + (10 + cnt σ t)) (by omega) (by decide) (x := nI (stp σ t (cnt σ t) + 1)) dX7_append_95 (mW_s1 _ _ _ _ _) (fun H locs X => ?_)
    refine lv_aload_n hx hb dX7_append_96 rfl (lv_at hl 3 rfl) ?_
    refine hx_getL S X (ci := 7) 0 (mW_0 _ _ _) rfl hin7 1 (by decide) (by decide +kernel) rfl dX7_append_97 ?_
    refine lv_iload_n hx hb dX7_append_100 rfl (lv_at hl 4 rfl) ?_
    refine lv_iconst (v := 2) hx hb dX7_append_101 (by decide) ?_
    refine lv_iload hx hb dX7_append_102 (lv_at hl 2 rfl) ?_
    refine lv_iadd hx hb dX7_append_104 ?_
    refine hx_ei (show _ = nI (2 + cnt σ t) from nI_add (2) (cnt σ t)) ?_
    refine hx_Si (rest := [.ref (ad 1)]) S X (c_X7_at l G _ (t) (2 + cnt σ t)) gX7_append_X7_at rfl (n := 2) (by decide +kernel) rfl ⟨(Nat.le_of_ble_eq_true rfl), (Nat.le_of_ble_eq_true rfl)⟩ hl.1 rfl (Nat.le_of_ble_eq_true rfl) dX7_append_105 ⟨(Nat.le_of_ble_eq_true rfl), (Nat.le_of_ble_eq_true rfl)⟩ (fun r wd1 H locs hp X => ?_)
    obtain ⟨rfl, rfl⟩ := hp
    refine lv_iload hx hb dX7_append_108 (lv_at hl 8 rfl) ?_
    refine mx_st S X 1 (N := 972) (mW_1 _ _ _) (j := 162 * t + (2 + cnt σ t)) (by omega) (by decide) (x := fs) dX7_append_110 (mW_s1 _ _ _ _ _) (fun H locs X => ?_)
    refine lv_iload hx hb dX7_append_111 (lv_at hl 1 rfl) ?_
    refine lv_iconst (v := 1) hx hb dX7_append_113 (by decide) ?_
    refine lv_iadd hx hb dX7_append_114 ?_
    refine hx_ei (show _ = nI (stp σ t (cnt σ t) + 1) from nI_add (stp σ t (cnt σ t)) (1)) ?_
    exact hx_iret S X hr hlk (Nat.le_of_ble_eq_true rfl) (Nat.le_of_ble_eq_true rfl) (by simp [M_append, wif_t, wif_f, c24, stB]) dX7_append_115
  · skip
    have c24 := (nI_eq (a := stp σ t (cnt σ t)) (b := 6) (by omega) (by omega)).mp c24
    refine lv_ldc (v := -2000010) hx hb hown (hts (Cond.constant RX7 57 (-2000010)) (by decide +kernel)) dX7_append_27 ?_
    exact hx_iret S X hr hlk (Nat.le_of_ble_eq_true rfl) (Nat.le_of_ble_eq_true rfl) (by simp [M_append, wif_t, wif_f, c24, stB]) dX7_append_29

set_option maxRecDepth 100000 in
set_option maxHeartbeats 4000000 in
theorem c_X7_addField (l : Launch) (G : hG) (ad : Nat → Nat) (σ : Sg) (type field value : Int32) (hI : Inv σ) : hMi l G yX7_addField wsX7_addField ({ frames := 3, cells := 0, slots := 0, locals := 71 } : Room) (mW G ad σ) [.ref (ad 0), .int (type), .int (field), .int (value)] (fun r w => r = (M_addField σ type field value).1 ∧ w = mW G ad (M_addField σ type field value).2) := by
  refine hMi.of (cc := cX7_addField) (maxL := 6) (some .int) RX7 rfl (by decide +kernel) rfl (Nat.le_of_ble_eq_true rfl) ?_
  intro p e s m args below meth c S hr hlk X ls hl
  have hx := S.1
  have hb := S.2.1
  have hown := S.2.2.2.1
  have hts := S.2.2.2.2
  have hl : lv_has ls 6 [(0, .ref (ad 0)), (1, .int (type)), (2, .int (field)), (3, .int (value))] := hl
  have hin7 : ∀ w ∈ wsX70, w ∈ wsX7_addField := by decide +kernel
  have hC6 : nC σ ≤ 6 := hI.1.2
  have hO24 : nO σ ≤ 24 := hI.2.1.2
  refine lv_aload_n hx hb dX7_addField_0 rfl (lv_at hl 0 rfl) ?_
  refine lv_iload_n hx hb dX7_addField_1 rfl (lv_at hl 1 rfl) ?_
  refine hx_Vi (rest := []) S X (c_X7_wrongStage l G ad σ (type) hI) gX7_addField_X7_wrongStage rfl (n := 1) (by decide +kernel) rfl ⟨(Nat.le_of_ble_eq_true rfl), (Nat.le_of_ble_eq_true rfl)⟩ (hx_recvL (q0 := 0) (ci := 7) X rfl (mW_0 _ _ _)) hl.1 rfl (Nat.le_of_ble_eq_true rfl) dX7_addField_2 ⟨(Nat.le_of_ble_eq_true rfl), (Nat.le_of_ble_eq_true rfl)⟩ (fun r wd1 H locs hp X => ?_)
  obtain ⟨rfl, rfl⟩ := hp
  rcases ws_cases hI type with ⟨w1, w2⟩ | ⟨t, ht, rfl, w1, w2⟩ | ⟨t, ht, rfl, w1, w2⟩
  · skip
    refine hx_ei (show _ = (-2000001 : Int32) from w2) ?_
    refine lv_istore (lv' := [(4, .int ((-2000001 : Int32))), (0, .ref (ad 0)), (1, .int (type)), (2, .int (field)), (3, .int (value))]) hx hb dX7_addField_5 hl (by decide) rfl (fun ls hl => ?_)
    refine lv_iload hx hb dX7_addField_7 (lv_at hl 0 rfl) ?_
    refine lv_if_eq (tgt := 15) hx hb dX7_addField_9 (by decide) (fun c9 => absurd c9 (by decide)) (fun _ => ?_)
    refine lv_iload hx hb dX7_addField_12 (lv_at hl 0 rfl) ?_
    exact hx_iret S X hr hlk (Nat.le_of_ble_eq_true rfl) (Nat.le_of_ble_eq_true rfl) (by simp [M_addField, wif_t, wif_f, w1, w2]) dX7_addField_14
  · skip
    refine hx_ei (show _ = (-2000008 : Int32) from w2) ?_
    refine lv_istore (lv' := [(4, .int ((-2000008 : Int32))), (0, .ref (ad 0)), (1, .int (nI (t))), (2, .int (field)), (3, .int (value))]) hx hb dX7_addField_5 hl (by decide) rfl (fun ls hl => ?_)
    refine lv_iload hx hb dX7_addField_7 (lv_at hl 0 rfl) ?_
    refine lv_if_eq (tgt := 15) hx hb dX7_addField_9 (by decide) (fun c9 => absurd c9 (by decide)) (fun _ => ?_)
    refine lv_iload hx hb dX7_addField_12 (lv_at hl 0 rfl) ?_
    exact hx_iret S X hr hlk (Nat.le_of_ble_eq_true rfl) (Nat.le_of_ble_eq_true rfl) (by simp [M_addField, wif_t, wif_f, w1, w2]) dX7_addField_14
  · skip
    have hct : (nI t).toNatClampNeg = t := nI_clamp (by omega)
    obtain ⟨⟨hk0, hk1, hk2⟩, hks, hkv⟩ := hI.2.2.1 t ht
    have hk3 : cnt σ t ≤ 7 := hks.elim (fun q => absurd q w1) (fun q => q.2)
    refine hx_ei (show _ = (0 : Int32) from w2) ?_
    refine lv_istore (lv' := [(4, .int ((0 : Int32))), (0, .ref (ad 0)), (1, .int (nI (t))), (2, .int (field)), (3, .int (value))]) hx hb dX7_addField_5 hl (by decide) rfl (fun ls hl => ?_)
    refine lv_iload hx hb dX7_addField_7 (lv_at hl 0 rfl) ?_
    refine lv_if_eq (tgt := 15) hx hb dX7_addField_9 (by decide) (fun _ => ?_) (fun c9 => absurd (by decide) c9)
    refine lv_iload_n hx hb dX7_addField_15 rfl (lv_at hl 3 rfl) ?_
    refine lv_iconst (v := 0) hx hb dX7_addField_16 (by decide) ?_
    refine lv_bipush (v := 7) hx hb dX7_addField_17 (by decide) ?_
    refine hx_Si (rest := []) S X (c_X7_in l G _ (field) ((0 : Int32)) ((7 : Int32))) gX7_addField_X7_in rfl (n := 3) (by decide +kernel) rfl ⟨(Nat.le_of_ble_eq_true rfl), (Nat.le_of_ble_eq_true rfl)⟩ hl.1 rfl (Nat.le_of_ble_eq_true rfl) dX7_addField_19 ⟨(Nat.le_of_ble_eq_true rfl), (Nat.le_of_ble_eq_true rfl)⟩ (fun r wd1 H locs hp X => ?_)
    obtain ⟨hr19, rfl⟩ := hp
    by_cases h19 : 0 ≤ field ∧ field ≤ 7
    · skip
      refine hx_ei (hr19.1 h19) ?_
      have h19' : isF field := (in_1 (n := 7) (by decide) field).mp h19
      refine lv_if_eq (tgt := 36) hx hb dX7_addField_22 (by decide) (fun c9 => absurd c9 (by decide)) (fun _ => ?_)
      refine lv_iload_n hx hb dX7_addField_25 rfl (lv_at hl 4 rfl) ?_
      refine lv_ldc (v := -1000000) hx hb hown (hts (Cond.constant RX7 76 (-1000000)) (by decide +kernel)) dX7_addField_26 ?_
      refine lv_ldc (v := 1000000) hx hb hown (hts (Cond.constant RX7 77 (1000000)) (by decide +kernel)) dX7_addField_28 ?_
      refine hx_Si (rest := []) S X (c_X7_in l G _ (value) ((-1000000 : Int32)) ((1000000 : Int32))) gX7_addField_X7_in rfl (n := 3) (by decide +kernel) rfl ⟨(Nat.le_of_ble_eq_true rfl), (Nat.le_of_ble_eq_true rfl)⟩ hl.1 rfl (Nat.le_of_ble_eq_true rfl) dX7_addField_30 ⟨(Nat.le_of_ble_eq_true rfl), (Nat.le_of_ble_eq_true rfl)⟩ (fun r wd1 H locs hp X => ?_)
      obtain ⟨hr30, rfl⟩ := hp
      by_cases h30 : isVal value
      · skip
        refine hx_ei (hr30.1 h30) ?_
        refine lv_if_ne (tgt := 39) hx hb dX7_addField_33 (by decide) (fun _ => ?_) (fun c9 => absurd c9 (by decide))
        refine lv_aload_n hx hb dX7_addField_39 rfl (lv_at hl 1 rfl) ?_
        refine lv_iload_n hx hb dX7_addField_40 rfl (lv_at hl 2 rfl) ?_
        refine hx_Vi (rest := []) S X (c_X7_stagedNow l G ad σ (t) hI ht hk3) gX7_addField_X7_stagedNow rfl (n := 1) (by decide +kernel) rfl ⟨(Nat.le_of_ble_eq_true rfl), (Nat.le_of_ble_eq_true rfl)⟩ (hx_recvL (q0 := 0) (ci := 7) X rfl (mW_0 _ _ _)) hl.1 rfl (Nat.le_of_ble_eq_true rfl) dX7_addField_41 ⟨(Nat.le_of_ble_eq_true rfl), (Nat.le_of_ble_eq_true rfl)⟩ (fun r wd1 H locs hp X => ?_)
        obtain ⟨rfl, rfl⟩ := hp
        refine lv_istore (lv' := [(5, .int (sset σ (t))), (4, .int ((0 : Int32))), (0, .ref (ad 0)), (1, .int (nI (t))), (2, .int (field)), (3, .int (value))]) hx hb dX7_addField_44 hl (by decide) rfl (fun ls hl => ?_)
        refine lv_iload hx hb dX7_addField_46 (lv_at hl 0 rfl) ?_
        refine lv_iload_n hx hb dX7_addField_48 rfl (lv_at hl 4 rfl) ?_
        refine hx_Si (rest := []) S X (c_X7_has l G _ (sset σ (t)) (field)) gX7_addField_X7_has rfl (n := 2) (by decide +kernel) rfl ⟨(Nat.le_of_ble_eq_true rfl), (Nat.le_of_ble_eq_true rfl)⟩ hl.1 rfl (Nat.le_of_ble_eq_true rfl) dX7_addField_49 ⟨(Nat.le_of_ble_eq_true rfl), (Nat.le_of_ble_eq_true rfl)⟩ (fun r wd1 H locs hp X => ?_)
        obtain ⟨hr49, rfl⟩ := hp
        by_cases h49 : hasF (sset σ (t)) (field)
        · skip
          refine hx_ei (hr49.1 h49) ?_
          refine lv_if_eq (tgt := 60) hx hb dX7_addField_52 (by decide) (fun c9 => absurd c9 (by decide)) (fun _ => ?_)
          refine lv_ldc (v := -2000009) hx hb hown (hts (Cond.constant RX7 68 (-2000009)) (by decide +kernel)) dX7_addField_55 ?_
          refine lv_goto (tgt := 74) hx hb dX7_addField_57 (by decide) ?_
          exact hx_iret S X hr hlk (Nat.le_of_ble_eq_true rfl) (Nat.le_of_ble_eq_true rfl) (by simp [M_addField, wif_t, wif_f, w1, w2, hct, h19, h19', h30, h49]) dX7_addField_74
        · skip
          refine hx_ei (hr49.2 h49) ?_
          refine lv_if_eq (tgt := 60) hx hb dX7_addField_52 (by decide) (fun _ => ?_) (fun c9 => absurd (by decide) c9)
          refine lv_aload_n hx hb dX7_addField_60 rfl (lv_at hl 2 rfl) ?_
          refine lv_iload_n hx hb dX7_addField_61 rfl (lv_at hl 3 rfl) ?_
          refine lv_iconst (v := 0) hx hb dX7_addField_62 (by decide) ?_
          refine lv_iload_n hx hb dX7_addField_63 rfl (lv_at hl 4 rfl) ?_
          refine lv_iload_n hx hb dX7_addField_64 rfl (lv_at hl 5 rfl) ?_
          refine lv_iload hx hb dX7_addField_65 (lv_at hl 0 rfl) ?_
          refine lv_iconst (v := 1) hx hb dX7_addField_67 (by decide) ?_
          refine lv_iload_n hx hb dX7_addField_68 rfl (lv_at hl 4 rfl) ?_
          refine lv_ishl hx hb dX7_addField_69 ?_
          refine lv_ior hx hb dX7_addField_70 ?_
          refine hx_Vi (rest := []) S X (c_X7_append l G ad σ (t) ((0 : Int32)) (field) (value) ((sset σ (t)) ||| (((1 : Int32)) <<< ((field) &&& 31))) hI ht hk3) gX7_addField_X7_append rfl (n := 5) (by decide +kernel) rfl ⟨(Nat.le_of_ble_eq_true rfl), (Nat.le_of_ble_eq_true rfl)⟩ (hx_recvL (q0 := 0) (ci := 7) X rfl (mW_0 _ _ _)) hl.1 rfl (Nat.le_of_ble_eq_true rfl) dX7_addField_71 ⟨(Nat.le_of_ble_eq_true rfl), (Nat.le_of_ble_eq_true rfl)⟩ (fun r wd1 H locs hp X => ?_)
          obtain ⟨rfl, rfl⟩ := hp
          exact hx_iret S X hr hlk (Nat.le_of_ble_eq_true rfl) (Nat.le_of_ble_eq_true rfl) (by simp [M_addField, wif_t, wif_f, w1, w2, hct, h19, h19', h30, h49]) dX7_addField_74
      · skip
        refine hx_ei (hr30.2 h30) ?_
        refine lv_if_ne (tgt := 39) hx hb dX7_addField_33 (by decide) (fun c9 => absurd (by decide) c9) (fun _ => ?_)
        refine lv_ldc (v := -2000007) hx hb hown (hts (Cond.constant RX7 56 (-2000007)) (by decide +kernel)) dX7_addField_36 ?_
        exact hx_iret S X hr hlk (Nat.le_of_ble_eq_true rfl) (Nat.le_of_ble_eq_true rfl) (by simp [M_addField, wif_t, wif_f, w1, w2, hct, h19, h19', h30]) dX7_addField_38
    · skip
      refine hx_ei (hr19.2 h19) ?_
      have h19' : ¬ isF field := fun q => h19 ((in_1 (n := 7) (by decide) field).mpr q)
      refine lv_if_eq (tgt := 36) hx hb dX7_addField_22 (by decide) (fun _ => ?_) (fun c9 => absurd (by decide) c9)
      refine lv_ldc (v := -2000007) hx hb hown (hts (Cond.constant RX7 56 (-2000007)) (by decide +kernel)) dX7_addField_36 ?_
      exact hx_iret S X hr hlk (Nat.le_of_ble_eq_true rfl) (Nat.le_of_ble_eq_true rfl) (by simp [M_addField, wif_t, wif_f, w1, w2, hct, h19, h19']) dX7_addField_38

set_option maxRecDepth 100000 in
set_option maxHeartbeats 4000000 in
theorem c_X7_dropField (l : Launch) (G : hG) (ad : Nat → Nat) (σ : Sg) (type field : Int32) (hI : Inv σ) : hMi l G yX7_dropField wsX7_dropField ({ frames := 3, cells := 0, slots := 0, locals := 71 } : Room) (mW G ad σ) [.ref (ad 0), .int (type), .int (field)] (fun r w => r = (M_dropField σ type field).1 ∧ w = mW G ad (M_dropField σ type field).2) := by
  refine hMi.of (cc := cX7_dropField) (maxL := 5) (some .int) RX7 rfl (by decide +kernel) rfl (Nat.le_of_ble_eq_true rfl) ?_
  intro p e s m args below meth c S hr hlk X ls hl
  have hx := S.1
  have hb := S.2.1
  have hown := S.2.2.2.1
  have hts := S.2.2.2.2
  have hl : lv_has ls 5 [(0, .ref (ad 0)), (1, .int (type)), (2, .int (field))] := hl
  have hin7 : ∀ w ∈ wsX70, w ∈ wsX7_dropField := by decide +kernel
  have hC6 : nC σ ≤ 6 := hI.1.2
  have hO24 : nO σ ≤ 24 := hI.2.1.2
  refine lv_aload_n hx hb dX7_dropField_0 rfl (lv_at hl 0 rfl) ?_
  refine lv_iload_n hx hb dX7_dropField_1 rfl (lv_at hl 1 rfl) ?_
  refine hx_Vi (rest := []) S X (c_X7_wrongStage l G ad σ (type) hI) gX7_dropField_X7_wrongStage rfl (n := 1) (by decide +kernel) rfl ⟨(Nat.le_of_ble_eq_true rfl), (Nat.le_of_ble_eq_true rfl)⟩ (hx_recvL (q0 := 0) (ci := 7) X rfl (mW_0 _ _ _)) hl.1 rfl (Nat.le_of_ble_eq_true rfl) dX7_dropField_2 ⟨(Nat.le_of_ble_eq_true rfl), (Nat.le_of_ble_eq_true rfl)⟩ (fun r wd1 H locs hp X => ?_)
  obtain ⟨rfl, rfl⟩ := hp
  rcases ws_cases hI type with ⟨w1, w2⟩ | ⟨t, ht, rfl, w1, w2⟩ | ⟨t, ht, rfl, w1, w2⟩
  · skip
    refine hx_ei (show _ = (-2000001 : Int32) from w2) ?_
    refine lv_istore_n (lv' := [(3, .int ((-2000001 : Int32))), (0, .ref (ad 0)), (1, .int (type)), (2, .int (field))]) hx hb dX7_dropField_5 rfl hl (by decide) rfl (fun ls hl => ?_)
    refine lv_iload_n hx hb dX7_dropField_6 rfl (lv_at hl 0 rfl) ?_
    refine lv_if_eq (tgt := 12) hx hb dX7_dropField_7 (by decide) (fun c9 => absurd c9 (by decide)) (fun _ => ?_)
    refine lv_iload_n hx hb dX7_dropField_10 rfl (lv_at hl 0 rfl) ?_
    exact hx_iret S X hr hlk (Nat.le_of_ble_eq_true rfl) (Nat.le_of_ble_eq_true rfl) (by simp [M_dropField, wif_t, wif_f, w1, w2]) dX7_dropField_11
  · skip
    refine hx_ei (show _ = (-2000008 : Int32) from w2) ?_
    refine lv_istore_n (lv' := [(3, .int ((-2000008 : Int32))), (0, .ref (ad 0)), (1, .int (nI (t))), (2, .int (field))]) hx hb dX7_dropField_5 rfl hl (by decide) rfl (fun ls hl => ?_)
    refine lv_iload_n hx hb dX7_dropField_6 rfl (lv_at hl 0 rfl) ?_
    refine lv_if_eq (tgt := 12) hx hb dX7_dropField_7 (by decide) (fun c9 => absurd c9 (by decide)) (fun _ => ?_)
    refine lv_iload_n hx hb dX7_dropField_10 rfl (lv_at hl 0 rfl) ?_
    exact hx_iret S X hr hlk (Nat.le_of_ble_eq_true rfl) (Nat.le_of_ble_eq_true rfl) (by simp [M_dropField, wif_t, wif_f, w1, w2]) dX7_dropField_11
  · skip
    have hct : (nI t).toNatClampNeg = t := nI_clamp (by omega)
    obtain ⟨⟨hk0, hk1, hk2⟩, hks, hkv⟩ := hI.2.2.1 t ht
    have hk3 : cnt σ t ≤ 7 := hks.elim (fun q => absurd q w1) (fun q => q.2)
    refine hx_ei (show _ = (0 : Int32) from w2) ?_
    refine lv_istore_n (lv' := [(3, .int ((0 : Int32))), (0, .ref (ad 0)), (1, .int (nI (t))), (2, .int (field))]) hx hb dX7_dropField_5 rfl hl (by decide) rfl (fun ls hl => ?_)
    refine lv_iload_n hx hb dX7_dropField_6 rfl (lv_at hl 0 rfl) ?_
    refine lv_if_eq (tgt := 12) hx hb dX7_dropField_7 (by decide) (fun _ => ?_) (fun c9 => absurd (by decide) c9)
    refine lv_aload_n hx hb dX7_dropField_12 rfl (lv_at hl 1 rfl) ?_
    refine lv_iload_n hx hb dX7_dropField_13 rfl (lv_at hl 2 rfl) ?_
    refine hx_Vi (rest := []) S X (c_X7_stagedNow l G ad σ (t) hI ht hk3) gX7_dropField_X7_stagedNow rfl (n := 1) (by decide +kernel) rfl ⟨(Nat.le_of_ble_eq_true rfl), (Nat.le_of_ble_eq_true rfl)⟩ (hx_recvL (q0 := 0) (ci := 7) X rfl (mW_0 _ _ _)) hl.1 rfl (Nat.le_of_ble_eq_true rfl) dX7_dropField_14 ⟨(Nat.le_of_ble_eq_true rfl), (Nat.le_of_ble_eq_true rfl)⟩ (fun r wd1 H locs hp X => ?_)
    obtain ⟨rfl, rfl⟩ := hp
    refine lv_istore (lv' := [(4, .int (sset σ (t))), (3, .int ((0 : Int32))), (0, .ref (ad 0)), (1, .int (nI (t))), (2, .int (field))]) hx hb dX7_dropField_17 hl (by decide) rfl (fun ls hl => ?_)
    refine lv_iload hx hb dX7_dropField_19 (lv_at hl 0 rfl) ?_
    refine lv_iload_n hx hb dX7_dropField_21 rfl (lv_at hl 4 rfl) ?_
    refine hx_Si (rest := []) S X (c_X7_has l G _ (sset σ (t)) (field)) gX7_dropField_X7_has rfl (n := 2) (by decide +kernel) rfl ⟨(Nat.le_of_ble_eq_true rfl), (Nat.le_of_ble_eq_true rfl)⟩ hl.1 rfl (Nat.le_of_ble_eq_true rfl) dX7_dropField_22 ⟨(Nat.le_of_ble_eq_true rfl), (Nat.le_of_ble_eq_true rfl)⟩ (fun r wd1 H locs hp X => ?_)
    obtain ⟨hr22, rfl⟩ := hp
    by_cases h22 : hasF (sset σ (t)) (field)
    · skip
      refine hx_ei (hr22.1 h22) ?_
      refine lv_if_eq (tgt := 47) hx hb dX7_dropField_25 (by decide) (fun c9 => absurd c9 (by decide)) (fun _ => ?_)
      refine lv_aload_n hx hb dX7_dropField_28 rfl (lv_at hl 2 rfl) ?_
      refine lv_iload_n hx hb dX7_dropField_29 rfl (lv_at hl 3 rfl) ?_
      refine lv_iconst (v := 1) hx hb dX7_dropField_30 (by decide) ?_
      refine lv_iload_n hx hb dX7_dropField_31 rfl (lv_at hl 4 rfl) ?_
      refine lv_iconst (v := 0) hx hb dX7_dropField_32 (by decide) ?_
      refine lv_iload hx hb dX7_dropField_33 (lv_at hl 0 rfl) ?_
      refine lv_iconst (v := 1) hx hb dX7_dropField_35 (by decide) ?_
      refine lv_iload_n hx hb dX7_dropField_36 rfl (lv_at hl 4 rfl) ?_
      refine lv_ishl hx hb dX7_dropField_37 ?_
      refine lv_iconst (v := -1) hx hb dX7_dropField_38 (by decide) ?_
      refine lv_ixor hx hb dX7_dropField_39 ?_
      refine lv_iand hx hb dX7_dropField_40 ?_
      refine hx_Vi (rest := []) S X (c_X7_append l G ad σ (t) ((1 : Int32)) (field) ((0 : Int32)) ((sset σ (t)) &&& ((((1 : Int32)) <<< ((field) &&& 31)) ^^^ ((-1 : Int32)))) hI ht hk3) gX7_dropField_X7_append rfl (n := 5) (by decide +kernel) rfl ⟨(Nat.le_of_ble_eq_true rfl), (Nat.le_of_ble_eq_true rfl)⟩ (hx_recvL (q0 := 0) (ci := 7) X rfl (mW_0 _ _ _)) hl.1 rfl (Nat.le_of_ble_eq_true rfl) dX7_dropField_41 ⟨(Nat.le_of_ble_eq_true rfl), (Nat.le_of_ble_eq_true rfl)⟩ (fun r wd1 H locs hp X => ?_)
      obtain ⟨rfl, rfl⟩ := hp
      refine lv_goto (tgt := 49) hx hb dX7_dropField_44 (by decide) ?_
      exact hx_iret S X hr hlk (Nat.le_of_ble_eq_true rfl) (Nat.le_of_ble_eq_true rfl) (by simp [M_dropField, wif_t, wif_f, w1, w2, hct, h22]) dX7_dropField_49
    · skip
      refine hx_ei (hr22.2 h22) ?_
      refine lv_if_eq (tgt := 47) hx hb dX7_dropField_25 (by decide) (fun _ => ?_) (fun c9 => absurd (by decide) c9)
      refine lv_ldc (v := -2000005) hx hb hown (hts (Cond.constant RX7 86 (-2000005)) (by decide +kernel)) dX7_dropField_47 ?_
      exact hx_iret S X hr hlk (Nat.le_of_ble_eq_true rfl) (Nat.le_of_ble_eq_true rfl) (by simp [M_dropField, wif_t, wif_f, w1, w2, hct, h22]) dX7_dropField_49

set_option maxRecDepth 100000 in
set_option maxHeartbeats 4000000 in
theorem c_X7_renameField (l : Launch) (G : hG) (ad : Nat → Nat) (σ : Sg) (type fr to : Int32) (hI : Inv σ) : hMi l G yX7_renameField wsX7_renameField ({ frames := 3, cells := 0, slots := 0, locals := 71 } : Room) (mW G ad σ) [.ref (ad 0), .int (type), .int (fr), .int (to)] (fun r w => r = (M_renameField σ type fr to).1 ∧ w = mW G ad (M_renameField σ type fr to).2) := by
  refine hMi.of (cc := cX7_renameField) (maxL := 6) (some .int) RX7 rfl (by decide +kernel) rfl (Nat.le_of_ble_eq_true rfl) ?_
  intro p e s m args below meth c S hr hlk X ls hl
  have hx := S.1
  have hb := S.2.1
  have hown := S.2.2.2.1
  have hts := S.2.2.2.2
  have hl : lv_has ls 6 [(0, .ref (ad 0)), (1, .int (type)), (2, .int (fr)), (3, .int (to))] := hl
  have hin7 : ∀ w ∈ wsX70, w ∈ wsX7_renameField := by decide +kernel
  have hC6 : nC σ ≤ 6 := hI.1.2
  have hO24 : nO σ ≤ 24 := hI.2.1.2
  refine lv_aload_n hx hb dX7_renameField_0 rfl (lv_at hl 0 rfl) ?_
  refine lv_iload_n hx hb dX7_renameField_1 rfl (lv_at hl 1 rfl) ?_
  refine hx_Vi (rest := []) S X (c_X7_wrongStage l G ad σ (type) hI) gX7_renameField_X7_wrongStage rfl (n := 1) (by decide +kernel) rfl ⟨(Nat.le_of_ble_eq_true rfl), (Nat.le_of_ble_eq_true rfl)⟩ (hx_recvL (q0 := 0) (ci := 7) X rfl (mW_0 _ _ _)) hl.1 rfl (Nat.le_of_ble_eq_true rfl) dX7_renameField_2 ⟨(Nat.le_of_ble_eq_true rfl), (Nat.le_of_ble_eq_true rfl)⟩ (fun r wd1 H locs hp X => ?_)
  obtain ⟨rfl, rfl⟩ := hp
  rcases ws_cases hI type with ⟨w1, w2⟩ | ⟨t, ht, rfl, w1, w2⟩ | ⟨t, ht, rfl, w1, w2⟩
  · skip
    refine hx_ei (show _ = (-2000001 : Int32) from w2) ?_
    refine lv_istore (lv' := [(4, .int ((-2000001 : Int32))), (0, .ref (ad 0)), (1, .int (type)), (2, .int (fr)), (3, .int (to))]) hx hb dX7_renameField_5 hl (by decide) rfl (fun ls hl => ?_)
    refine lv_iload hx hb dX7_renameField_7 (lv_at hl 0 rfl) ?_
    refine lv_if_eq (tgt := 15) hx hb dX7_renameField_9 (by decide) (fun c9 => absurd c9 (by decide)) (fun _ => ?_)
    refine lv_iload hx hb dX7_renameField_12 (lv_at hl 0 rfl) ?_
    exact hx_iret S X hr hlk (Nat.le_of_ble_eq_true rfl) (Nat.le_of_ble_eq_true rfl) (by simp [M_renameField, wif_t, wif_f, w1, w2]) dX7_renameField_14
  · skip
    refine hx_ei (show _ = (-2000008 : Int32) from w2) ?_
    refine lv_istore (lv' := [(4, .int ((-2000008 : Int32))), (0, .ref (ad 0)), (1, .int (nI (t))), (2, .int (fr)), (3, .int (to))]) hx hb dX7_renameField_5 hl (by decide) rfl (fun ls hl => ?_)
    refine lv_iload hx hb dX7_renameField_7 (lv_at hl 0 rfl) ?_
    refine lv_if_eq (tgt := 15) hx hb dX7_renameField_9 (by decide) (fun c9 => absurd c9 (by decide)) (fun _ => ?_)
    refine lv_iload hx hb dX7_renameField_12 (lv_at hl 0 rfl) ?_
    exact hx_iret S X hr hlk (Nat.le_of_ble_eq_true rfl) (Nat.le_of_ble_eq_true rfl) (by simp [M_renameField, wif_t, wif_f, w1, w2]) dX7_renameField_14
  · skip
    have hct : (nI t).toNatClampNeg = t := nI_clamp (by omega)
    obtain ⟨⟨hk0, hk1, hk2⟩, hks, hkv⟩ := hI.2.2.1 t ht
    have hk3 : cnt σ t ≤ 7 := hks.elim (fun q => absurd q w1) (fun q => q.2)
    refine hx_ei (show _ = (0 : Int32) from w2) ?_
    refine lv_istore (lv' := [(4, .int ((0 : Int32))), (0, .ref (ad 0)), (1, .int (nI (t))), (2, .int (fr)), (3, .int (to))]) hx hb dX7_renameField_5 hl (by decide) rfl (fun ls hl => ?_)
    refine lv_iload hx hb dX7_renameField_7 (lv_at hl 0 rfl) ?_
    refine lv_if_eq (tgt := 15) hx hb dX7_renameField_9 (by decide) (fun _ => ?_) (fun c9 => absurd (by decide) c9)
    refine lv_aload_n hx hb dX7_renameField_15 rfl (lv_at hl 1 rfl) ?_
    refine lv_iload_n hx hb dX7_renameField_16 rfl (lv_at hl 2 rfl) ?_
    refine hx_Vi (rest := []) S X (c_X7_stagedNow l G ad σ (t) hI ht hk3) gX7_renameField_X7_stagedNow rfl (n := 1) (by decide +kernel) rfl ⟨(Nat.le_of_ble_eq_true rfl), (Nat.le_of_ble_eq_true rfl)⟩ (hx_recvL (q0 := 0) (ci := 7) X rfl (mW_0 _ _ _)) hl.1 rfl (Nat.le_of_ble_eq_true rfl) dX7_renameField_17 ⟨(Nat.le_of_ble_eq_true rfl), (Nat.le_of_ble_eq_true rfl)⟩ (fun r wd1 H locs hp X => ?_)
    obtain ⟨rfl, rfl⟩ := hp
    refine lv_istore (lv' := [(5, .int (sset σ (t))), (4, .int ((0 : Int32))), (0, .ref (ad 0)), (1, .int (nI (t))), (2, .int (fr)), (3, .int (to))]) hx hb dX7_renameField_20 hl (by decide) rfl (fun ls hl => ?_)
    refine lv_iload hx hb dX7_renameField_22 (lv_at hl 0 rfl) ?_
    refine lv_iload_n hx hb dX7_renameField_24 rfl (lv_at hl 4 rfl) ?_
    refine hx_Si (rest := []) S X (c_X7_has l G _ (sset σ (t)) (fr)) gX7_renameField_X7_has rfl (n := 2) (by decide +kernel) rfl ⟨(Nat.le_of_ble_eq_true rfl), (Nat.le_of_ble_eq_true rfl)⟩ hl.1 rfl (Nat.le_of_ble_eq_true rfl) dX7_renameField_25 ⟨(Nat.le_of_ble_eq_true rfl), (Nat.le_of_ble_eq_true rfl)⟩ (fun r wd1 H locs hp X => ?_)
    obtain ⟨hr25, rfl⟩ := hp
    by_cases h25 : hasF (sset σ (t)) (fr)
    · skip
      refine hx_ei (hr25.1 h25) ?_
      refine lv_if_ne (tgt := 34) hx hb dX7_renameField_28 (by decide) (fun _ => ?_) (fun c9 => absurd c9 (by decide))
      refine lv_iload_n hx hb dX7_renameField_34 rfl (lv_at hl 5 rfl) ?_
      refine lv_iconst (v := 0) hx hb dX7_renameField_35 (by decide) ?_
      refine lv_bipush (v := 7) hx hb dX7_renameField_36 (by decide) ?_
      refine hx_Si (rest := []) S X (c_X7_in l G _ (to) ((0 : Int32)) ((7 : Int32))) gX7_renameField_X7_in rfl (n := 3) (by decide +kernel) rfl ⟨(Nat.le_of_ble_eq_true rfl), (Nat.le_of_ble_eq_true rfl)⟩ hl.1 rfl (Nat.le_of_ble_eq_true rfl) dX7_renameField_38 ⟨(Nat.le_of_ble_eq_true rfl), (Nat.le_of_ble_eq_true rfl)⟩ (fun r wd1 H locs hp X => ?_)
      obtain ⟨hr38, rfl⟩ := hp
      by_cases h38 : 0 ≤ to ∧ to ≤ 7
      · skip
        refine hx_ei (hr38.1 h38) ?_
        have h38' : isF to := (in_1 (n := 7) (by decide) to).mp h38
        refine lv_if_ne (tgt := 47) hx hb dX7_renameField_41 (by decide) (fun _ => ?_) (fun c9 => absurd c9 (by decide))
        refine lv_iload hx hb dX7_renameField_47 (lv_at hl 0 rfl) ?_
        refine lv_iload_n hx hb dX7_renameField_49 rfl (lv_at hl 5 rfl) ?_
        refine hx_Si (rest := []) S X (c_X7_has l G _ (sset σ (t)) (to)) gX7_renameField_X7_has rfl (n := 2) (by decide +kernel) rfl ⟨(Nat.le_of_ble_eq_true rfl), (Nat.le_of_ble_eq_true rfl)⟩ hl.1 rfl (Nat.le_of_ble_eq_true rfl) dX7_renameField_50 ⟨(Nat.le_of_ble_eq_true rfl), (Nat.le_of_ble_eq_true rfl)⟩ (fun r wd1 H locs hp X => ?_)
        obtain ⟨hr50, rfl⟩ := hp
        by_cases h50 : hasF (sset σ (t)) (to)
        · skip
          refine hx_ei (hr50.1 h50) ?_
          refine lv_if_eq (tgt := 61) hx hb dX7_renameField_53 (by decide) (fun c9 => absurd c9 (by decide)) (fun _ => ?_)
          refine lv_ldc (v := -2000009) hx hb hown (hts (Cond.constant RX7 68 (-2000009)) (by decide +kernel)) dX7_renameField_56 ?_
          refine lv_goto (tgt := 81) hx hb dX7_renameField_58 (by decide) ?_
          exact hx_iret S X hr hlk (Nat.le_of_ble_eq_true rfl) (Nat.le_of_ble_eq_true rfl) (by simp [M_renameField, wif_t, wif_f, w1, w2, hct, h25, h38, h38', h50]) dX7_renameField_81
        · skip
          refine hx_ei (hr50.2 h50) ?_
          refine lv_if_eq (tgt := 61) hx hb dX7_renameField_53 (by decide) (fun _ => ?_) (fun c9 => absurd (by decide) c9)
          refine lv_aload_n hx hb dX7_renameField_61 rfl (lv_at hl 2 rfl) ?_
          refine lv_iload_n hx hb dX7_renameField_62 rfl (lv_at hl 3 rfl) ?_
          refine lv_iconst (v := 2) hx hb dX7_renameField_63 (by decide) ?_
          refine lv_iload_n hx hb dX7_renameField_64 rfl (lv_at hl 4 rfl) ?_
          refine lv_iload_n hx hb dX7_renameField_65 rfl (lv_at hl 5 rfl) ?_
          refine lv_iload hx hb dX7_renameField_66 (lv_at hl 0 rfl) ?_
          refine lv_iconst (v := 1) hx hb dX7_renameField_68 (by decide) ?_
          refine lv_iload_n hx hb dX7_renameField_69 rfl (lv_at hl 4 rfl) ?_
          refine lv_ishl hx hb dX7_renameField_70 ?_
          refine lv_iconst (v := -1) hx hb dX7_renameField_71 (by decide) ?_
          refine lv_ixor hx hb dX7_renameField_72 ?_
          refine lv_iand hx hb dX7_renameField_73 ?_
          refine lv_iconst (v := 1) hx hb dX7_renameField_74 (by decide) ?_
          refine lv_iload_n hx hb dX7_renameField_75 rfl (lv_at hl 5 rfl) ?_
          refine lv_ishl hx hb dX7_renameField_76 ?_
          refine lv_ior hx hb dX7_renameField_77 ?_
          refine hx_Vi (rest := []) S X (c_X7_append l G ad σ (t) ((2 : Int32)) (fr) (to) (((sset σ (t)) &&& ((((1 : Int32)) <<< ((fr) &&& 31)) ^^^ ((-1 : Int32)))) ||| (((1 : Int32)) <<< ((to) &&& 31))) hI ht hk3) gX7_renameField_X7_append rfl (n := 5) (by decide +kernel) rfl ⟨(Nat.le_of_ble_eq_true rfl), (Nat.le_of_ble_eq_true rfl)⟩ (hx_recvL (q0 := 0) (ci := 7) X rfl (mW_0 _ _ _)) hl.1 rfl (Nat.le_of_ble_eq_true rfl) dX7_renameField_78 ⟨(Nat.le_of_ble_eq_true rfl), (Nat.le_of_ble_eq_true rfl)⟩ (fun r wd1 H locs hp X => ?_)
          obtain ⟨rfl, rfl⟩ := hp
          exact hx_iret S X hr hlk (Nat.le_of_ble_eq_true rfl) (Nat.le_of_ble_eq_true rfl) (by simp [M_renameField, wif_t, wif_f, w1, w2, hct, h25, h38, h38', h50]) dX7_renameField_81
      · skip
        refine hx_ei (hr38.2 h38) ?_
        have h38' : ¬ isF to := fun q => h38 ((in_1 (n := 7) (by decide) to).mpr q)
        refine lv_if_ne (tgt := 47) hx hb dX7_renameField_41 (by decide) (fun c9 => absurd (by decide) c9) (fun _ => ?_)
        refine lv_ldc (v := -2000007) hx hb hown (hts (Cond.constant RX7 56 (-2000007)) (by decide +kernel)) dX7_renameField_44 ?_
        exact hx_iret S X hr hlk (Nat.le_of_ble_eq_true rfl) (Nat.le_of_ble_eq_true rfl) (by simp [M_renameField, wif_t, wif_f, w1, w2, hct, h25, h38, h38']) dX7_renameField_46
    · skip
      refine hx_ei (hr25.2 h25) ?_
      refine lv_if_ne (tgt := 34) hx hb dX7_renameField_28 (by decide) (fun c9 => absurd (by decide) c9) (fun _ => ?_)
      refine lv_ldc (v := -2000005) hx hb hown (hts (Cond.constant RX7 86 (-2000005)) (by decide +kernel)) dX7_renameField_31 ?_
      exact hx_iret S X hr hlk (Nat.le_of_ble_eq_true rfl) (Nat.le_of_ble_eq_true rfl) (by simp [M_renameField, wif_t, wif_f, w1, w2, hct, h25]) dX7_renameField_33

set_option maxRecDepth 100000 in
set_option maxHeartbeats 4000000 in
theorem c_X7_scaleField (l : Launch) (G : hG) (ad : Nat → Nat) (σ : Sg) (type field factor : Int32) (hI : Inv σ) : hMi l G yX7_scaleField wsX7_scaleField ({ frames := 3, cells := 0, slots := 0, locals := 71 } : Room) (mW G ad σ) [.ref (ad 0), .int (type), .int (field), .int (factor)] (fun r w => r = (M_scaleField σ type field factor).1 ∧ w = mW G ad (M_scaleField σ type field factor).2) := by
  refine hMi.of (cc := cX7_scaleField) (maxL := 6) (some .int) RX7 rfl (by decide +kernel) rfl (Nat.le_of_ble_eq_true rfl) ?_
  intro p e s m args below meth c S hr hlk X ls hl
  have hx := S.1
  have hb := S.2.1
  have hown := S.2.2.2.1
  have hts := S.2.2.2.2
  have hl : lv_has ls 6 [(0, .ref (ad 0)), (1, .int (type)), (2, .int (field)), (3, .int (factor))] := hl
  have hin7 : ∀ w ∈ wsX70, w ∈ wsX7_scaleField := by decide +kernel
  have hC6 : nC σ ≤ 6 := hI.1.2
  have hO24 : nO σ ≤ 24 := hI.2.1.2
  refine lv_aload_n hx hb dX7_scaleField_0 rfl (lv_at hl 0 rfl) ?_
  refine lv_iload_n hx hb dX7_scaleField_1 rfl (lv_at hl 1 rfl) ?_
  refine hx_Vi (rest := []) S X (c_X7_wrongStage l G ad σ (type) hI) gX7_scaleField_X7_wrongStage rfl (n := 1) (by decide +kernel) rfl ⟨(Nat.le_of_ble_eq_true rfl), (Nat.le_of_ble_eq_true rfl)⟩ (hx_recvL (q0 := 0) (ci := 7) X rfl (mW_0 _ _ _)) hl.1 rfl (Nat.le_of_ble_eq_true rfl) dX7_scaleField_2 ⟨(Nat.le_of_ble_eq_true rfl), (Nat.le_of_ble_eq_true rfl)⟩ (fun r wd1 H locs hp X => ?_)
  obtain ⟨rfl, rfl⟩ := hp
  rcases ws_cases hI type with ⟨w1, w2⟩ | ⟨t, ht, rfl, w1, w2⟩ | ⟨t, ht, rfl, w1, w2⟩
  · skip
    refine hx_ei (show _ = (-2000001 : Int32) from w2) ?_
    refine lv_istore (lv' := [(4, .int ((-2000001 : Int32))), (0, .ref (ad 0)), (1, .int (type)), (2, .int (field)), (3, .int (factor))]) hx hb dX7_scaleField_5 hl (by decide) rfl (fun ls hl => ?_)
    refine lv_iload hx hb dX7_scaleField_7 (lv_at hl 0 rfl) ?_
    refine lv_if_eq (tgt := 15) hx hb dX7_scaleField_9 (by decide) (fun c9 => absurd c9 (by decide)) (fun _ => ?_)
    refine lv_iload hx hb dX7_scaleField_12 (lv_at hl 0 rfl) ?_
    exact hx_iret S X hr hlk (Nat.le_of_ble_eq_true rfl) (Nat.le_of_ble_eq_true rfl) (by simp [M_scaleField, wif_t, wif_f, w1, w2]) dX7_scaleField_14
  · skip
    refine hx_ei (show _ = (-2000008 : Int32) from w2) ?_
    refine lv_istore (lv' := [(4, .int ((-2000008 : Int32))), (0, .ref (ad 0)), (1, .int (nI (t))), (2, .int (field)), (3, .int (factor))]) hx hb dX7_scaleField_5 hl (by decide) rfl (fun ls hl => ?_)
    refine lv_iload hx hb dX7_scaleField_7 (lv_at hl 0 rfl) ?_
    refine lv_if_eq (tgt := 15) hx hb dX7_scaleField_9 (by decide) (fun c9 => absurd c9 (by decide)) (fun _ => ?_)
    refine lv_iload hx hb dX7_scaleField_12 (lv_at hl 0 rfl) ?_
    exact hx_iret S X hr hlk (Nat.le_of_ble_eq_true rfl) (Nat.le_of_ble_eq_true rfl) (by simp [M_scaleField, wif_t, wif_f, w1, w2]) dX7_scaleField_14
  · skip
    have hct : (nI t).toNatClampNeg = t := nI_clamp (by omega)
    obtain ⟨⟨hk0, hk1, hk2⟩, hks, hkv⟩ := hI.2.2.1 t ht
    have hk3 : cnt σ t ≤ 7 := hks.elim (fun q => absurd q w1) (fun q => q.2)
    refine hx_ei (show _ = (0 : Int32) from w2) ?_
    refine lv_istore (lv' := [(4, .int ((0 : Int32))), (0, .ref (ad 0)), (1, .int (nI (t))), (2, .int (field)), (3, .int (factor))]) hx hb dX7_scaleField_5 hl (by decide) rfl (fun ls hl => ?_)
    refine lv_iload hx hb dX7_scaleField_7 (lv_at hl 0 rfl) ?_
    refine lv_if_eq (tgt := 15) hx hb dX7_scaleField_9 (by decide) (fun _ => ?_) (fun c9 => absurd (by decide) c9)
    refine lv_aload_n hx hb dX7_scaleField_15 rfl (lv_at hl 1 rfl) ?_
    refine lv_iload_n hx hb dX7_scaleField_16 rfl (lv_at hl 2 rfl) ?_
    refine hx_Vi (rest := []) S X (c_X7_stagedNow l G ad σ (t) hI ht hk3) gX7_scaleField_X7_stagedNow rfl (n := 1) (by decide +kernel) rfl ⟨(Nat.le_of_ble_eq_true rfl), (Nat.le_of_ble_eq_true rfl)⟩ (hx_recvL (q0 := 0) (ci := 7) X rfl (mW_0 _ _ _)) hl.1 rfl (Nat.le_of_ble_eq_true rfl) dX7_scaleField_17 ⟨(Nat.le_of_ble_eq_true rfl), (Nat.le_of_ble_eq_true rfl)⟩ (fun r wd1 H locs hp X => ?_)
    obtain ⟨rfl, rfl⟩ := hp
    refine lv_istore (lv' := [(5, .int (sset σ (t))), (4, .int ((0 : Int32))), (0, .ref (ad 0)), (1, .int (nI (t))), (2, .int (field)), (3, .int (factor))]) hx hb dX7_scaleField_20 hl (by decide) rfl (fun ls hl => ?_)
    refine lv_iload hx hb dX7_scaleField_22 (lv_at hl 0 rfl) ?_
    refine lv_iload_n hx hb dX7_scaleField_24 rfl (lv_at hl 4 rfl) ?_
    refine hx_Si (rest := []) S X (c_X7_has l G _ (sset σ (t)) (field)) gX7_scaleField_X7_has rfl (n := 2) (by decide +kernel) rfl ⟨(Nat.le_of_ble_eq_true rfl), (Nat.le_of_ble_eq_true rfl)⟩ hl.1 rfl (Nat.le_of_ble_eq_true rfl) dX7_scaleField_25 ⟨(Nat.le_of_ble_eq_true rfl), (Nat.le_of_ble_eq_true rfl)⟩ (fun r wd1 H locs hp X => ?_)
    obtain ⟨hr25, rfl⟩ := hp
    by_cases h25 : hasF (sset σ (t)) (field)
    · skip
      refine hx_ei (hr25.1 h25) ?_
      refine lv_if_ne (tgt := 34) hx hb dX7_scaleField_28 (by decide) (fun _ => ?_) (fun c9 => absurd c9 (by decide))
      refine lv_iload_n hx hb dX7_scaleField_34 rfl (lv_at hl 5 rfl) ?_
      refine lv_ldc (v := -100000) hx hb hown (hts (Cond.constant RX7 87 (-100000)) (by decide +kernel)) dX7_scaleField_35 ?_
      refine lv_ldc (v := 100000) hx hb hown (hts (Cond.constant RX7 88 (100000)) (by decide +kernel)) dX7_scaleField_37 ?_
      refine hx_Si (rest := []) S X (c_X7_in l G _ (factor) ((-100000 : Int32)) ((100000 : Int32))) gX7_scaleField_X7_in rfl (n := 3) (by decide +kernel) rfl ⟨(Nat.le_of_ble_eq_true rfl), (Nat.le_of_ble_eq_true rfl)⟩ hl.1 rfl (Nat.le_of_ble_eq_true rfl) dX7_scaleField_39 ⟨(Nat.le_of_ble_eq_true rfl), (Nat.le_of_ble_eq_true rfl)⟩ (fun r wd1 H locs hp X => ?_)
      obtain ⟨hr39, rfl⟩ := hp
      by_cases h39 : -100000 ≤ factor ∧ factor ≤ 100000
      · skip
        refine hx_ei (hr39.1 h39) ?_
        refine lv_if_eq (tgt := 58) hx hb dX7_scaleField_42 (by decide) (fun c9 => absurd c9 (by decide)) (fun _ => ?_)
        refine lv_aload_n hx hb dX7_scaleField_45 rfl (lv_at hl 2 rfl) ?_
        refine lv_iload_n hx hb dX7_scaleField_46 rfl (lv_at hl 3 rfl) ?_
        refine lv_iconst (v := 3) hx hb dX7_scaleField_47 (by decide) ?_
        refine lv_iload_n hx hb dX7_scaleField_48 rfl (lv_at hl 4 rfl) ?_
        refine lv_iload_n hx hb dX7_scaleField_49 rfl (lv_at hl 5 rfl) ?_
        refine lv_iload hx hb dX7_scaleField_50 (lv_at hl 0 rfl) ?_
        refine hx_Vi (rest := []) S X (c_X7_append l G ad σ (t) ((3 : Int32)) (field) (factor) (sset σ (t)) hI ht hk3) gX7_scaleField_X7_append rfl (n := 5) (by decide +kernel) rfl ⟨(Nat.le_of_ble_eq_true rfl), (Nat.le_of_ble_eq_true rfl)⟩ (hx_recvL (q0 := 0) (ci := 7) X rfl (mW_0 _ _ _)) hl.1 rfl (Nat.le_of_ble_eq_true rfl) dX7_scaleField_52 ⟨(Nat.le_of_ble_eq_true rfl), (Nat.le_of_ble_eq_true rfl)⟩ (fun r wd1 H locs hp X => ?_)
        obtain ⟨rfl, rfl⟩ := hp
        refine lv_goto (tgt := 60) hx hb dX7_scaleField_55 (by decide) ?_
        exact hx_iret S X hr hlk (Nat.le_of_ble_eq_true rfl) (Nat.le_of_ble_eq_true rfl) (by simp [M_scaleField, wif_t, wif_f, w1, w2, hct, h25, h39]) dX7_scaleField_60
      · skip
        refine hx_ei (hr39.2 h39) ?_
        refine lv_if_eq (tgt := 58) hx hb dX7_scaleField_42 (by decide) (fun _ => ?_) (fun c9 => absurd (by decide) c9)
        refine lv_ldc (v := -2000007) hx hb hown (hts (Cond.constant RX7 56 (-2000007)) (by decide +kernel)) dX7_scaleField_58 ?_
        exact hx_iret S X hr hlk (Nat.le_of_ble_eq_true rfl) (Nat.le_of_ble_eq_true rfl) (by simp [M_scaleField, wif_t, wif_f, w1, w2, hct, h25, h39]) dX7_scaleField_60
    · skip
      refine hx_ei (hr25.2 h25) ?_
      refine lv_if_ne (tgt := 34) hx hb dX7_scaleField_28 (by decide) (fun c9 => absurd (by decide) c9) (fun _ => ?_)
      refine lv_ldc (v := -2000005) hx hb hown (hts (Cond.constant RX7 86 (-2000005)) (by decide +kernel)) dX7_scaleField_31 ?_
      exact hx_iret S X hr hlk (Nat.le_of_ble_eq_true rfl) (Nat.le_of_ble_eq_true rfl) (by simp [M_scaleField, wif_t, wif_f, w1, w2, hct, h25]) dX7_scaleField_33

set_option maxRecDepth 100000 in
set_option maxHeartbeats 4000000 in
theorem c_X7_mergeField (l : Launch) (G : hG) (ad : Nat → Nat) (σ : Sg) (type fr into : Int32) (hI : Inv σ) : hMi l G yX7_mergeField wsX7_mergeField ({ frames := 3, cells := 0, slots := 0, locals := 71 } : Room) (mW G ad σ) [.ref (ad 0), .int (type), .int (fr), .int (into)] (fun r w => r = (M_mergeField σ type fr into).1 ∧ w = mW G ad (M_mergeField σ type fr into).2) := by
  refine hMi.of (cc := cX7_mergeField) (maxL := 6) (some .int) RX7 rfl (by decide +kernel) rfl (Nat.le_of_ble_eq_true rfl) ?_
  intro p e s m args below meth c S hr hlk X ls hl
  have hx := S.1
  have hb := S.2.1
  have hown := S.2.2.2.1
  have hts := S.2.2.2.2
  have hl : lv_has ls 6 [(0, .ref (ad 0)), (1, .int (type)), (2, .int (fr)), (3, .int (into))] := hl
  have hin7 : ∀ w ∈ wsX70, w ∈ wsX7_mergeField := by decide +kernel
  have hC6 : nC σ ≤ 6 := hI.1.2
  have hO24 : nO σ ≤ 24 := hI.2.1.2
  refine lv_aload_n hx hb dX7_mergeField_0 rfl (lv_at hl 0 rfl) ?_
  refine lv_iload_n hx hb dX7_mergeField_1 rfl (lv_at hl 1 rfl) ?_
  refine hx_Vi (rest := []) S X (c_X7_wrongStage l G ad σ (type) hI) gX7_mergeField_X7_wrongStage rfl (n := 1) (by decide +kernel) rfl ⟨(Nat.le_of_ble_eq_true rfl), (Nat.le_of_ble_eq_true rfl)⟩ (hx_recvL (q0 := 0) (ci := 7) X rfl (mW_0 _ _ _)) hl.1 rfl (Nat.le_of_ble_eq_true rfl) dX7_mergeField_2 ⟨(Nat.le_of_ble_eq_true rfl), (Nat.le_of_ble_eq_true rfl)⟩ (fun r wd1 H locs hp X => ?_)
  obtain ⟨rfl, rfl⟩ := hp
  rcases ws_cases hI type with ⟨w1, w2⟩ | ⟨t, ht, rfl, w1, w2⟩ | ⟨t, ht, rfl, w1, w2⟩
  · skip
    refine hx_ei (show _ = (-2000001 : Int32) from w2) ?_
    refine lv_istore (lv' := [(4, .int ((-2000001 : Int32))), (0, .ref (ad 0)), (1, .int (type)), (2, .int (fr)), (3, .int (into))]) hx hb dX7_mergeField_5 hl (by decide) rfl (fun ls hl => ?_)
    refine lv_iload hx hb dX7_mergeField_7 (lv_at hl 0 rfl) ?_
    refine lv_if_eq (tgt := 15) hx hb dX7_mergeField_9 (by decide) (fun c9 => absurd c9 (by decide)) (fun _ => ?_)
    refine lv_iload hx hb dX7_mergeField_12 (lv_at hl 0 rfl) ?_
    exact hx_iret S X hr hlk (Nat.le_of_ble_eq_true rfl) (Nat.le_of_ble_eq_true rfl) (by simp [M_mergeField, wif_t, wif_f, w1, w2]) dX7_mergeField_14
  · skip
    refine hx_ei (show _ = (-2000008 : Int32) from w2) ?_
    refine lv_istore (lv' := [(4, .int ((-2000008 : Int32))), (0, .ref (ad 0)), (1, .int (nI (t))), (2, .int (fr)), (3, .int (into))]) hx hb dX7_mergeField_5 hl (by decide) rfl (fun ls hl => ?_)
    refine lv_iload hx hb dX7_mergeField_7 (lv_at hl 0 rfl) ?_
    refine lv_if_eq (tgt := 15) hx hb dX7_mergeField_9 (by decide) (fun c9 => absurd c9 (by decide)) (fun _ => ?_)
    refine lv_iload hx hb dX7_mergeField_12 (lv_at hl 0 rfl) ?_
    exact hx_iret S X hr hlk (Nat.le_of_ble_eq_true rfl) (Nat.le_of_ble_eq_true rfl) (by simp [M_mergeField, wif_t, wif_f, w1, w2]) dX7_mergeField_14
  · skip
    have hct : (nI t).toNatClampNeg = t := nI_clamp (by omega)
    obtain ⟨⟨hk0, hk1, hk2⟩, hks, hkv⟩ := hI.2.2.1 t ht
    have hk3 : cnt σ t ≤ 7 := hks.elim (fun q => absurd q w1) (fun q => q.2)
    refine hx_ei (show _ = (0 : Int32) from w2) ?_
    refine lv_istore (lv' := [(4, .int ((0 : Int32))), (0, .ref (ad 0)), (1, .int (nI (t))), (2, .int (fr)), (3, .int (into))]) hx hb dX7_mergeField_5 hl (by decide) rfl (fun ls hl => ?_)
    refine lv_iload hx hb dX7_mergeField_7 (lv_at hl 0 rfl) ?_
    refine lv_if_eq (tgt := 15) hx hb dX7_mergeField_9 (by decide) (fun _ => ?_) (fun c9 => absurd (by decide) c9)
    refine lv_aload_n hx hb dX7_mergeField_15 rfl (lv_at hl 1 rfl) ?_
    refine lv_iload_n hx hb dX7_mergeField_16 rfl (lv_at hl 2 rfl) ?_
    refine hx_Vi (rest := []) S X (c_X7_stagedNow l G ad σ (t) hI ht hk3) gX7_mergeField_X7_stagedNow rfl (n := 1) (by decide +kernel) rfl ⟨(Nat.le_of_ble_eq_true rfl), (Nat.le_of_ble_eq_true rfl)⟩ (hx_recvL (q0 := 0) (ci := 7) X rfl (mW_0 _ _ _)) hl.1 rfl (Nat.le_of_ble_eq_true rfl) dX7_mergeField_17 ⟨(Nat.le_of_ble_eq_true rfl), (Nat.le_of_ble_eq_true rfl)⟩ (fun r wd1 H locs hp X => ?_)
    obtain ⟨rfl, rfl⟩ := hp
    refine lv_istore (lv' := [(5, .int (sset σ (t))), (4, .int ((0 : Int32))), (0, .ref (ad 0)), (1, .int (nI (t))), (2, .int (fr)), (3, .int (into))]) hx hb dX7_mergeField_20 hl (by decide) rfl (fun ls hl => ?_)
    refine lv_iload hx hb dX7_mergeField_22 (lv_at hl 0 rfl) ?_
    refine lv_iload_n hx hb dX7_mergeField_24 rfl (lv_at hl 4 rfl) ?_
    refine hx_Si (rest := []) S X (c_X7_has l G _ (sset σ (t)) (fr)) gX7_mergeField_X7_has rfl (n := 2) (by decide +kernel) rfl ⟨(Nat.le_of_ble_eq_true rfl), (Nat.le_of_ble_eq_true rfl)⟩ hl.1 rfl (Nat.le_of_ble_eq_true rfl) dX7_mergeField_25 ⟨(Nat.le_of_ble_eq_true rfl), (Nat.le_of_ble_eq_true rfl)⟩ (fun r wd1 H locs hp X => ?_)
    obtain ⟨hr25, rfl⟩ := hp
    by_cases h25 : hasF (sset σ (t)) (fr)
    · skip
      refine hx_ei (hr25.1 h25) ?_
      refine lv_if_eq (tgt := 40) hx hb dX7_mergeField_28 (by decide) (fun c9 => absurd c9 (by decide)) (fun _ => ?_)
      refine lv_iload hx hb dX7_mergeField_31 (lv_at hl 0 rfl) ?_
      refine lv_iload_n hx hb dX7_mergeField_33 rfl (lv_at hl 5 rfl) ?_
      refine hx_Si (rest := []) S X (c_X7_has l G _ (sset σ (t)) (into)) gX7_mergeField_X7_has rfl (n := 2) (by decide +kernel) rfl ⟨(Nat.le_of_ble_eq_true rfl), (Nat.le_of_ble_eq_true rfl)⟩ hl.1 rfl (Nat.le_of_ble_eq_true rfl) dX7_mergeField_34 ⟨(Nat.le_of_ble_eq_true rfl), (Nat.le_of_ble_eq_true rfl)⟩ (fun r wd1 H locs hp X => ?_)
      obtain ⟨hr34, rfl⟩ := hp
      by_cases h34 : hasF (sset σ (t)) (into)
      · skip
        refine hx_ei (hr34.1 h34) ?_
        refine lv_if_ne (tgt := 43) hx hb dX7_mergeField_37 (by decide) (fun _ => ?_) (fun c9 => absurd c9 (by decide))
        refine lv_iload_n hx hb dX7_mergeField_43 rfl (lv_at hl 4 rfl) ?_
        refine lv_iload_n hx hb dX7_mergeField_44 rfl (lv_at hl 5 rfl) ?_
        refine lv_icmp_ne (tgt := 53) hx hb dX7_mergeField_45 (by decide) (fun c45 => ?_) (fun c45 => ?_)
        · skip
          refine lv_aload_n hx hb dX7_mergeField_53 rfl (lv_at hl 2 rfl) ?_
          refine lv_iload_n hx hb dX7_mergeField_54 rfl (lv_at hl 3 rfl) ?_
          refine lv_iconst (v := 4) hx hb dX7_mergeField_55 (by decide) ?_
          refine lv_iload_n hx hb dX7_mergeField_56 rfl (lv_at hl 4 rfl) ?_
          refine lv_iload_n hx hb dX7_mergeField_57 rfl (lv_at hl 5 rfl) ?_
          refine lv_iload hx hb dX7_mergeField_58 (lv_at hl 0 rfl) ?_
          refine lv_iconst (v := 1) hx hb dX7_mergeField_60 (by decide) ?_
          refine lv_iload_n hx hb dX7_mergeField_61 rfl (lv_at hl 4 rfl) ?_
          refine lv_ishl hx hb dX7_mergeField_62 ?_
          refine lv_iconst (v := -1) hx hb dX7_mergeField_63 (by decide) ?_
          refine lv_ixor hx hb dX7_mergeField_64 ?_
          refine lv_iand hx hb dX7_mergeField_65 ?_
          refine hx_Vi (rest := []) S X (c_X7_append l G ad σ (t) ((4 : Int32)) (fr) (into) ((sset σ (t)) &&& ((((1 : Int32)) <<< ((fr) &&& 31)) ^^^ ((-1 : Int32)))) hI ht hk3) gX7_mergeField_X7_append rfl (n := 5) (by decide +kernel) rfl ⟨(Nat.le_of_ble_eq_true rfl), (Nat.le_of_ble_eq_true rfl)⟩ (hx_recvL (q0 := 0) (ci := 7) X rfl (mW_0 _ _ _)) hl.1 rfl (Nat.le_of_ble_eq_true rfl) dX7_mergeField_66 ⟨(Nat.le_of_ble_eq_true rfl), (Nat.le_of_ble_eq_true rfl)⟩ (fun r wd1 H locs hp X => ?_)
          obtain ⟨rfl, rfl⟩ := hp
          exact hx_iret S X hr hlk (Nat.le_of_ble_eq_true rfl) (Nat.le_of_ble_eq_true rfl) (by simp [M_mergeField, wif_t, wif_f, w1, w2, hct, h25, h34, c45]) dX7_mergeField_69
        · skip
          refine lv_ldc (v := -2000007) hx hb hown (hts (Cond.constant RX7 56 (-2000007)) (by decide +kernel)) dX7_mergeField_48 ?_
          refine lv_goto (tgt := 69) hx hb dX7_mergeField_50 (by decide) ?_
          exact hx_iret S X hr hlk (Nat.le_of_ble_eq_true rfl) (Nat.le_of_ble_eq_true rfl) (by simp [M_mergeField, wif_t, wif_f, w1, w2, hct, h25, h34, c45]) dX7_mergeField_69
      · skip
        refine hx_ei (hr34.2 h34) ?_
        refine lv_if_ne (tgt := 43) hx hb dX7_mergeField_37 (by decide) (fun c9 => absurd (by decide) c9) (fun _ => ?_)
        refine lv_ldc (v := -2000005) hx hb hown (hts (Cond.constant RX7 86 (-2000005)) (by decide +kernel)) dX7_mergeField_40 ?_
        exact hx_iret S X hr hlk (Nat.le_of_ble_eq_true rfl) (Nat.le_of_ble_eq_true rfl) (by simp [M_mergeField, wif_t, wif_f, w1, w2, hct, h25, h34]) dX7_mergeField_42
    · skip
      refine hx_ei (hr25.2 h25) ?_
      refine lv_if_eq (tgt := 40) hx hb dX7_mergeField_28 (by decide) (fun _ => ?_) (fun c9 => absurd (by decide) c9)
      refine lv_ldc (v := -2000005) hx hb hown (hts (Cond.constant RX7 86 (-2000005)) (by decide +kernel)) dX7_mergeField_40 ?_
      exact hx_iret S X hr hlk (Nat.le_of_ble_eq_true rfl) (Nat.le_of_ble_eq_true rfl) (by simp [M_mergeField, wif_t, wif_f, w1, w2, hct, h25]) dX7_mergeField_42

set_option maxRecDepth 100000 in
set_option maxHeartbeats 4000000 in
theorem c_X7_activate (l : Launch) (G : hG) (ad : Nat → Nat) (σ : Sg) (type : Int32) (hI : Inv σ) : hMi l G yX7_activate wsX7_activate ({ frames := 3, cells := 0, slots := 0, locals := 64 } : Room) (mW G ad σ) [.ref (ad 0), .int (type)] (fun r w => r = (M_activate σ type).1 ∧ w = mW G ad (M_activate σ type).2) := by
  refine hMi.of (cc := cX7_activate) (maxL := 3) (some .int) RX7 rfl (by decide +kernel) rfl (Nat.le_of_ble_eq_true rfl) ?_
  intro p e s m args below meth c S hr hlk X ls hl
  have hx := S.1
  have hb := S.2.1
  have hown := S.2.2.2.1
  have hts := S.2.2.2.2
  have hl : lv_has ls 3 [(0, .ref (ad 0)), (1, .int (type))] := hl
  have hin7 : ∀ w ∈ wsX70, w ∈ wsX7_activate := by decide +kernel
  have hC6 : nC σ ≤ 6 := hI.1.2
  have hO24 : nO σ ≤ 24 := hI.2.1.2
  refine lv_aload_n hx hb dX7_activate_0 rfl (lv_at hl 0 rfl) ?_
  refine lv_iload_n hx hb dX7_activate_1 rfl (lv_at hl 1 rfl) ?_
  refine hx_Vi (rest := []) S X (c_X7_wrongStage l G ad σ (type) hI) gX7_activate_X7_wrongStage rfl (n := 1) (by decide +kernel) rfl ⟨(Nat.le_of_ble_eq_true rfl), (Nat.le_of_ble_eq_true rfl)⟩ (hx_recvL (q0 := 0) (ci := 7) X rfl (mW_0 _ _ _)) hl.1 rfl (Nat.le_of_ble_eq_true rfl) dX7_activate_2 ⟨(Nat.le_of_ble_eq_true rfl), (Nat.le_of_ble_eq_true rfl)⟩ (fun r wd1 H locs hp X => ?_)
  obtain ⟨rfl, rfl⟩ := hp
  rcases ws_cases hI type with ⟨w1, w2⟩ | ⟨t, ht, rfl, w1, w2⟩ | ⟨t, ht, rfl, w1, w2⟩
  · skip
    refine hx_ei (show _ = (-2000001 : Int32) from w2) ?_
    refine lv_istore_n (lv' := [(2, .int ((-2000001 : Int32))), (0, .ref (ad 0)), (1, .int (type))]) hx hb dX7_activate_5 rfl hl (by decide) rfl (fun ls hl => ?_)
    refine lv_iload_n hx hb dX7_activate_6 rfl (lv_at hl 0 rfl) ?_
    refine lv_if_eq (tgt := 12) hx hb dX7_activate_7 (by decide) (fun c9 => absurd c9 (by decide)) (fun _ => ?_)
    refine lv_iload_n hx hb dX7_activate_10 rfl (lv_at hl 0 rfl) ?_
    exact hx_iret S X hr hlk (Nat.le_of_ble_eq_true rfl) (Nat.le_of_ble_eq_true rfl) (by simp [M_activate, wif_t, wif_f, w1, w2]) dX7_activate_11
  · skip
    refine hx_ei (show _ = (-2000008 : Int32) from w2) ?_
    refine lv_istore_n (lv' := [(2, .int ((-2000008 : Int32))), (0, .ref (ad 0)), (1, .int (nI (t)))]) hx hb dX7_activate_5 rfl hl (by decide) rfl (fun ls hl => ?_)
    refine lv_iload_n hx hb dX7_activate_6 rfl (lv_at hl 0 rfl) ?_
    refine lv_if_eq (tgt := 12) hx hb dX7_activate_7 (by decide) (fun c9 => absurd c9 (by decide)) (fun _ => ?_)
    refine lv_iload_n hx hb dX7_activate_10 rfl (lv_at hl 0 rfl) ?_
    exact hx_iret S X hr hlk (Nat.le_of_ble_eq_true rfl) (Nat.le_of_ble_eq_true rfl) (by simp [M_activate, wif_t, wif_f, w1, w2]) dX7_activate_11
  · skip
    have hct : (nI t).toNatClampNeg = t := nI_clamp (by omega)
    obtain ⟨⟨hk0, hk1, hk2⟩, hks, hkv⟩ := hI.2.2.1 t ht
    have hk3 : cnt σ t ≤ 7 := hks.elim (fun q => absurd q w1) (fun q => q.2)
    refine hx_ei (show _ = (0 : Int32) from w2) ?_
    refine lv_istore_n (lv' := [(2, .int ((0 : Int32))), (0, .ref (ad 0)), (1, .int (nI (t)))]) hx hb dX7_activate_5 rfl hl (by decide) rfl (fun ls hl => ?_)
    refine lv_iload_n hx hb dX7_activate_6 rfl (lv_at hl 0 rfl) ?_
    refine lv_if_eq (tgt := 12) hx hb dX7_activate_7 (by decide) (fun _ => ?_) (fun c9 => absurd (by decide) c9)
    refine lv_aload_n hx hb dX7_activate_12 rfl (lv_at hl 1 rfl) ?_
    refine hx_getL S X (ci := 7) 0 (mW_0 _ _ _) rfl hin7 1 (by decide) (by decide +kernel) rfl dX7_activate_13 ?_
    refine lv_iload_n hx hb dX7_activate_16 rfl (lv_at hl 2 rfl) ?_
    refine lv_iconst (v := 1) hx hb dX7_activate_17 (by decide) ?_
    refine hx_Si (rest := [.ref (ad 1)]) S X (c_X7_at l G _ (t) (1)) gX7_activate_X7_at rfl (n := 2) (by decide +kernel) rfl ⟨(Nat.le_of_ble_eq_true rfl), (Nat.le_of_ble_eq_true rfl)⟩ hl.1 rfl (Nat.le_of_ble_eq_true rfl) dX7_activate_18 ⟨(Nat.le_of_ble_eq_true rfl), (Nat.le_of_ble_eq_true rfl)⟩ (fun r wd1 H locs hp X => ?_)
    obtain ⟨rfl, rfl⟩ := hp
    refine lv_iconst (v := 0) hx hb dX7_activate_21 (by decide) ?_
    refine mx_st S X 1 (N := 972) (mW_1 _ _ _) (j := 162 * t + 1) (by omega) (by decide) (x := (0 : Int32)) dX7_activate_22 (mW_s1 _ _ _ _ _) (fun H locs X => ?_)
    refine lv_aload_n hx hb dX7_activate_23 rfl (lv_at hl 1 rfl) ?_
    refine hx_getL S X (ci := 7) 0 (mW_0 _ _ _) rfl hin7 1 (by decide) (by decide +kernel) rfl dX7_activate_24 ?_
    refine lv_iload_n hx hb dX7_activate_27 rfl (lv_at hl 2 rfl) ?_
    refine lv_iconst (v := 0) hx hb dX7_activate_28 (by decide) ?_
    refine hx_Si (rest := [.ref (ad 1)]) S X (c_X7_at l G _ (t) (0)) gX7_activate_X7_at rfl (n := 2) (by decide +kernel) rfl ⟨(Nat.le_of_ble_eq_true rfl), (Nat.le_of_ble_eq_true rfl)⟩ hl.1 rfl (Nat.le_of_ble_eq_true rfl) dX7_activate_29 ⟨(Nat.le_of_ble_eq_true rfl), (Nat.le_of_ble_eq_true rfl)⟩ (fun r wd1 H locs hp X => ?_)
    obtain ⟨rfl, rfl⟩ := hp
    refine lv_dup2_11 hx hb dX7_activate_32 rfl rfl ?_
    refine mx_ld S X 1 (N := 972) (mW_1 _ _ _) (j := 162 * t + 0) (by omega) (by decide) (x := nI (cnt σ t)) (by rw [mS_ne _ _ _ (by omega)]; exact hk0) dX7_activate_33 ?_
    refine lv_iconst (v := 1) hx hb dX7_activate_34 (by decide) ?_
    refine lv_iadd hx hb dX7_activate_35 ?_
    refine hx_ei (show _ = nI (cnt σ t + 1) from nI_add (cnt σ t) (1)) ?_
    refine mx_st S X 1 (N := 972) (mW_1 _ _ _) (j := 162 * t + 0) (by omega) (by decide) (x := nI (cnt σ t + 1)) dX7_activate_36 (mW_s1 _ _ _ _ _) (fun H locs X => ?_)
    refine lv_aload_n hx hb dX7_activate_37 rfl (lv_at hl 1 rfl) ?_
    refine lv_iload_n hx hb dX7_activate_38 rfl (lv_at hl 2 rfl) ?_
    refine hx_Vi (rest := []) S X (c_X7_current l G ad (mS (mS σ 1 (162 * t + 1) ((0 : Int32))) 1 (162 * t + 0) (nI (cnt σ t + 1))) (t) (by omega)) gX7_activate_X7_current rfl (n := 1) (by decide +kernel) rfl ⟨(Nat.le_of_ble_eq_true rfl), (Nat.le_of_ble_eq_true rfl)⟩ (hx_recvL (q0 := 0) (ci := 7) X rfl (mW_0 _ _ _)) hl.1 rfl (Nat.le_of_ble_eq_true rfl) dX7_activate_39 ⟨(Nat.le_of_ble_eq_true rfl), (Nat.le_of_ble_eq_true rfl)⟩ (fun r wd1 H locs hp X => ?_)
    obtain ⟨rfl, rfl⟩ := hp
    refine hx_ei (show _ = nI (cnt σ t + 1) - 1 from by rw [show (mS (mS σ 1 (162 * t + 1) ((0 : Int32))) 1 (162 * t + 0) (nI (cnt σ t + 1))) 1 (162 * t + 0) = nI (cnt σ t + 1) from by rw [mS_eq]]) ?_
    exact hx_iret S X hr hlk (Nat.le_of_ble_eq_true rfl) (Nat.le_of_ble_eq_true rfl) (by simp [M_activate, wif_t, wif_f, w1, w2, hct]) dX7_activate_42

set_option maxRecDepth 100000 in
set_option maxHeartbeats 4000000 in
theorem c_X7_discard (l : Launch) (G : hG) (ad : Nat → Nat) (σ : Sg) (type : Int32) (hI : Inv σ) : hMi l G yX7_discard wsX7_discard ({ frames := 3, cells := 0, slots := 0, locals := 64 } : Room) (mW G ad σ) [.ref (ad 0), .int (type)] (fun r w => r = (M_discard σ type).1 ∧ w = mW G ad (M_discard σ type).2) := by
  refine hMi.of (cc := cX7_discard) (maxL := 3) (some .int) RX7 rfl (by decide +kernel) rfl (Nat.le_of_ble_eq_true rfl) ?_
  intro p e s m args below meth c S hr hlk X ls hl
  have hx := S.1
  have hb := S.2.1
  have hown := S.2.2.2.1
  have hts := S.2.2.2.2
  have hl : lv_has ls 3 [(0, .ref (ad 0)), (1, .int (type))] := hl
  have hin7 : ∀ w ∈ wsX70, w ∈ wsX7_discard := by decide +kernel
  have hC6 : nC σ ≤ 6 := hI.1.2
  have hO24 : nO σ ≤ 24 := hI.2.1.2
  refine lv_aload_n hx hb dX7_discard_0 rfl (lv_at hl 0 rfl) ?_
  refine lv_iload_n hx hb dX7_discard_1 rfl (lv_at hl 1 rfl) ?_
  refine hx_Vi (rest := []) S X (c_X7_wrongStage l G ad σ (type) hI) gX7_discard_X7_wrongStage rfl (n := 1) (by decide +kernel) rfl ⟨(Nat.le_of_ble_eq_true rfl), (Nat.le_of_ble_eq_true rfl)⟩ (hx_recvL (q0 := 0) (ci := 7) X rfl (mW_0 _ _ _)) hl.1 rfl (Nat.le_of_ble_eq_true rfl) dX7_discard_2 ⟨(Nat.le_of_ble_eq_true rfl), (Nat.le_of_ble_eq_true rfl)⟩ (fun r wd1 H locs hp X => ?_)
  obtain ⟨rfl, rfl⟩ := hp
  rcases ws_cases hI type with ⟨w1, w2⟩ | ⟨t, ht, rfl, w1, w2⟩ | ⟨t, ht, rfl, w1, w2⟩
  · skip
    refine hx_ei (show _ = (-2000001 : Int32) from w2) ?_
    refine lv_istore_n (lv' := [(2, .int ((-2000001 : Int32))), (0, .ref (ad 0)), (1, .int (type))]) hx hb dX7_discard_5 rfl hl (by decide) rfl (fun ls hl => ?_)
    refine lv_iload_n hx hb dX7_discard_6 rfl (lv_at hl 0 rfl) ?_
    refine lv_if_eq (tgt := 12) hx hb dX7_discard_7 (by decide) (fun c9 => absurd c9 (by decide)) (fun _ => ?_)
    refine lv_iload_n hx hb dX7_discard_10 rfl (lv_at hl 0 rfl) ?_
    exact hx_iret S X hr hlk (Nat.le_of_ble_eq_true rfl) (Nat.le_of_ble_eq_true rfl) (by simp [M_discard, wif_t, wif_f, w1, w2]) dX7_discard_11
  · skip
    refine hx_ei (show _ = (-2000008 : Int32) from w2) ?_
    refine lv_istore_n (lv' := [(2, .int ((-2000008 : Int32))), (0, .ref (ad 0)), (1, .int (nI (t)))]) hx hb dX7_discard_5 rfl hl (by decide) rfl (fun ls hl => ?_)
    refine lv_iload_n hx hb dX7_discard_6 rfl (lv_at hl 0 rfl) ?_
    refine lv_if_eq (tgt := 12) hx hb dX7_discard_7 (by decide) (fun c9 => absurd c9 (by decide)) (fun _ => ?_)
    refine lv_iload_n hx hb dX7_discard_10 rfl (lv_at hl 0 rfl) ?_
    exact hx_iret S X hr hlk (Nat.le_of_ble_eq_true rfl) (Nat.le_of_ble_eq_true rfl) (by simp [M_discard, wif_t, wif_f, w1, w2]) dX7_discard_11
  · skip
    have hct : (nI t).toNatClampNeg = t := nI_clamp (by omega)
    obtain ⟨⟨hk0, hk1, hk2⟩, hks, hkv⟩ := hI.2.2.1 t ht
    have hk3 : cnt σ t ≤ 7 := hks.elim (fun q => absurd q w1) (fun q => q.2)
    refine hx_ei (show _ = (0 : Int32) from w2) ?_
    refine lv_istore_n (lv' := [(2, .int ((0 : Int32))), (0, .ref (ad 0)), (1, .int (nI (t)))]) hx hb dX7_discard_5 rfl hl (by decide) rfl (fun ls hl => ?_)
    refine lv_iload_n hx hb dX7_discard_6 rfl (lv_at hl 0 rfl) ?_
    refine lv_if_eq (tgt := 12) hx hb dX7_discard_7 (by decide) (fun _ => ?_) (fun c9 => absurd (by decide) c9)
    refine lv_aload_n hx hb dX7_discard_12 rfl (lv_at hl 1 rfl) ?_
    refine hx_getL S X (ci := 7) 0 (mW_0 _ _ _) rfl hin7 1 (by decide) (by decide +kernel) rfl dX7_discard_13 ?_
    refine lv_iload_n hx hb dX7_discard_16 rfl (lv_at hl 2 rfl) ?_
    refine lv_iconst (v := 1) hx hb dX7_discard_17 (by decide) ?_
    refine hx_Si (rest := [.ref (ad 1)]) S X (c_X7_at l G _ (t) (1)) gX7_discard_X7_at rfl (n := 2) (by decide +kernel) rfl ⟨(Nat.le_of_ble_eq_true rfl), (Nat.le_of_ble_eq_true rfl)⟩ hl.1 rfl (Nat.le_of_ble_eq_true rfl) dX7_discard_18 ⟨(Nat.le_of_ble_eq_true rfl), (Nat.le_of_ble_eq_true rfl)⟩ (fun r wd1 H locs hp X => ?_)
    obtain ⟨rfl, rfl⟩ := hp
    refine lv_iconst (v := 0) hx hb dX7_discard_21 (by decide) ?_
    refine mx_st S X 1 (N := 972) (mW_1 _ _ _) (j := 162 * t + 1) (by omega) (by decide) (x := (0 : Int32)) dX7_discard_22 (mW_s1 _ _ _ _ _) (fun H locs X => ?_)
    refine lv_aload_n hx hb dX7_discard_23 rfl (lv_at hl 1 rfl) ?_
    refine lv_iload_n hx hb dX7_discard_24 rfl (lv_at hl 2 rfl) ?_
    refine lv_bipush (v := 10) hx hb dX7_discard_25 (by decide) ?_
    refine lv_aload_n hx hb dX7_discard_27 rfl (lv_at hl 1 rfl) ?_
    refine lv_iload_n hx hb dX7_discard_28 rfl (lv_at hl 2 rfl) ?_
    refine lv_iconst (v := 0) hx hb dX7_discard_29 (by decide) ?_
    refine hx_Vi (rest := [.int ((10 : Int32)), .int (nI (t)), .ref (ad 0)]) S X (c_X7_of l G ad (mS σ 1 (162 * t + 1) ((0 : Int32))) (t) (0) (by omega)) gX7_discard_X7_of rfl (n := 2) (by decide +kernel) rfl ⟨(Nat.le_of_ble_eq_true rfl), (Nat.le_of_ble_eq_true rfl)⟩ (hx_recvL (q0 := 0) (ci := 7) X rfl (mW_0 _ _ _)) hl.1 rfl (Nat.le_of_ble_eq_true rfl) dX7_discard_30 ⟨(Nat.le_of_ble_eq_true rfl), (Nat.le_of_ble_eq_true rfl)⟩ (fun r wd1 H locs hp X => ?_)
    obtain ⟨rfl, rfl⟩ := hp
    refine hx_ei (show _ = nI (cnt σ t) from by rw [mS_ne _ _ _ (by omega)]; exact hk0) ?_
    refine lv_iadd hx hb dX7_discard_33 ?_
    refine hx_ei (show _ = nI (10 + cnt σ t) from nI_add (10) (cnt σ t)) ?_
    refine hx_Vi (rest := []) S X (c_X7_of l G ad (mS σ 1 (162 * t + 1) ((0 : Int32))) (t) (10 + cnt σ t) (by omega)) gX7_discard_X7_of rfl (n := 2) (by decide +kernel) rfl ⟨(Nat.le_of_ble_eq_true rfl), (Nat.le_of_ble_eq_true rfl)⟩ (hx_recvL (q0 := 0) (ci := 7) X rfl (mW_0 _ _ _)) hl.1 rfl (Nat.le_of_ble_eq_true rfl) dX7_discard_34 ⟨(Nat.le_of_ble_eq_true rfl), (Nat.le_of_ble_eq_true rfl)⟩ (fun r wd1 H locs hp X => ?_)
    obtain ⟨rfl, rfl⟩ := hp
    refine hx_ei (show _ = nI (stp σ t (cnt σ t)) from by rw [mS_ne _ _ _ (by omega)]; exact (hkv (cnt σ t) (by omega)).1.1) ?_
    exact hx_iret S X hr hlk (Nat.le_of_ble_eq_true rfl) (Nat.le_of_ble_eq_true rfl) (by simp [M_discard, wif_t, wif_f, w1, w2, hct]) dX7_discard_37

set_option maxRecDepth 100000 in
set_option maxHeartbeats 4000000 in
theorem c_X7_isThread (l : Launch) (G : hG) (wd : va_W) (x : Int32)  : hMi l G yX7_isThread wsX7_isThread ({ frames := 1, cells := 0, slots := 0, locals := 22 } : Room) wd [.int (x)] (fun r w => isB r (isT x) ∧ w = wd) := by
  refine hMi.of (cc := cX7_isThread) (maxL := 1) (some .boolean) RX7 rfl (by decide +kernel) rfl (Nat.le_of_ble_eq_true rfl) ?_
  intro p e s m args below meth c S hr hlk X ls hl
  have hx := S.1
  have hb := S.2.1
  have hown := S.2.2.2.1
  have hts := S.2.2.2.2
  have hl : lv_has ls 1 [(0, .int (x))] := hl
  refine lv_iload_n hx hb dX7_isThread_0 rfl (lv_at hl 0 rfl) ?_
  refine lv_iconst (v := 0) hx hb dX7_isThread_1 (by decide) ?_
  refine lv_iconst (v := 3) hx hb dX7_isThread_2 (by decide) ?_
  refine hx_Si (rest := []) S X (c_X7_in l G _ (x) ((0 : Int32)) ((3 : Int32))) gX7_isThread_X7_in rfl (n := 3) (by decide +kernel) rfl ⟨(Nat.le_of_ble_eq_true rfl), (Nat.le_of_ble_eq_true rfl)⟩ hl.1 rfl (Nat.le_of_ble_eq_true rfl) dX7_isThread_3 ⟨(Nat.le_of_ble_eq_true rfl), (Nat.le_of_ble_eq_true rfl)⟩ (fun r wd1 H locs hp X => ?_)
  obtain ⟨hr3, rfl⟩ := hp
  exact hx_zret S X hr hlk (Nat.le_of_ble_eq_true rfl) (Nat.le_of_ble_eq_true rfl) (isB_nar hr3) ⟨isB_iff (in_1 (n := 3) (by decide) x) hr3, rfl⟩ dX7_isThread_6

set_option maxRecDepth 100000 in
set_option maxHeartbeats 4000000 in
theorem c_X7_call (l : Launch) (G : hG) (ad : Nat → Nat) (σ : Sg) (thread type : Int32) (hI : Inv σ) : hMi l G yX7_call wsX7_call ({ frames := 3, cells := 0, slots := 0, locals := 64 } : Room) (mW G ad σ) [.ref (ad 0), .int (thread), .int (type)] (fun r w => r = (M_call σ thread type).1 ∧ w = mW G ad (M_call σ thread type).2) := by
  refine hMi.of (cc := cX7_call) (maxL := 4) (some .int) RX7 rfl (by decide +kernel) rfl (Nat.le_of_ble_eq_true rfl) ?_
  intro p e s m args below meth c S hr hlk X ls hl
  have hx := S.1
  have hb := S.2.1
  have hown := S.2.2.2.1
  have hts := S.2.2.2.2
  have hl : lv_has ls 4 [(0, .ref (ad 0)), (1, .int (thread)), (2, .int (type))] := hl
  have hin7 : ∀ w ∈ wsX70, w ∈ wsX7_call := by decide +kernel
  have hC6 : nC σ ≤ 6 := hI.1.2
  have hO24 : nO σ ≤ 24 := hI.2.1.2
  refine lv_iload_n hx hb dX7_call_0 rfl (lv_at hl 1 rfl) ?_
  refine hx_Si (rest := []) S X (c_X7_isThread l G _ (thread)) gX7_call_X7_isThread rfl (n := 1) (by decide +kernel) rfl ⟨(Nat.le_of_ble_eq_true rfl), (Nat.le_of_ble_eq_true rfl)⟩ hl.1 rfl (Nat.le_of_ble_eq_true rfl) dX7_call_1 ⟨(Nat.le_of_ble_eq_true rfl), (Nat.le_of_ble_eq_true rfl)⟩ (fun r wd1 H locs hp X => ?_)
  obtain ⟨hr1, rfl⟩ := hp
  by_cases h1 : isT (thread)
  · skip
    refine hx_ei (hr1.1 h1) ?_
    have h1' := h1
    obtain ⟨th, hth, rfl⟩ := h1
    have hcth : (nI th).toNatClampNeg = th := nI_clamp (by omega)
    obtain ⟨hd0, hd8⟩ := hI.2.2.2.1 th hth
    refine lv_if_ne (tgt := 10) hx hb dX7_call_4 (by decide) (fun _ => ?_) (fun c9 => absurd c9 (by decide))
    refine lv_aload_n hx hb dX7_call_10 rfl (lv_at hl 0 rfl) ?_
    refine lv_iload_n hx hb dX7_call_11 rfl (lv_at hl 2 rfl) ?_
    refine hx_Vi (rest := []) S X (c_X7_isClass l G ad σ (type) hI) gX7_call_X7_isClass rfl (n := 1) (by decide +kernel) rfl ⟨(Nat.le_of_ble_eq_true rfl), (Nat.le_of_ble_eq_true rfl)⟩ (hx_recvL (q0 := 0) (ci := 7) X rfl (mW_0 _ _ _)) hl.1 rfl (Nat.le_of_ble_eq_true rfl) dX7_call_12 ⟨(Nat.le_of_ble_eq_true rfl), (Nat.le_of_ble_eq_true rfl)⟩ (fun r wd1 H locs hp X => ?_)
    obtain ⟨hr12, rfl⟩ := hp
    by_cases h12 : isC σ (type)
    · skip
      refine hx_ei (hr12.1 h12) ?_
      have h12' := h12
      obtain ⟨t, ht, rfl⟩ := h12
      have hct : (nI t).toNatClampNeg = t := nI_clamp (by omega)
      obtain ⟨⟨hk0, hk1, hk2⟩, hks, hkv⟩ := hI.2.2.1 t ht
      refine lv_if_ne (tgt := 21) hx hb dX7_call_15 (by decide) (fun _ => ?_) (fun c9 => absurd c9 (by decide))
      refine lv_aload_n hx hb dX7_call_21 rfl (lv_at hl 0 rfl) ?_
      refine hx_getL S X (ci := 7) 0 (mW_0 _ _ _) rfl hin7 2 (by decide) (by decide +kernel) rfl dX7_call_22 ?_
      refine lv_iload_n hx hb dX7_call_25 rfl (lv_at hl 1 rfl) ?_
      refine mx_ld S X 2 (N := 4) (mW_2 _ _ _) (j := th) (by omega) (by decide) (x := nI (dN σ th)) (hd0) dX7_call_26 ?_
      refine lv_bipush (v := 8) hx hb dX7_call_27 (by decide) ?_
      refine lv_icmp_ne (tgt := 35) hx hb dX7_call_29 (by decide) (fun c29 => ?_) (fun c29 => ?_)
      · skip
        have c29 := (not_congr (nI_eq (a := dN σ th) (b := 8) (by omega) (by omega))).mp c29
        refine lv_bipush (v := 8) hx hb dX7_call_35 (by decide) ?_
        refine lv_iload_n hx hb dX7_call_37 rfl (lv_at hl 1 rfl) ?_
        refine lv_imul hx hb dX7_call_38 ?_
        refine hx_ei (show _ = nI ((8) * (th)) from pk_mul (8) (th)) ?_
        refine lv_aload_n hx hb dX7_call_39 rfl (lv_at hl 0 rfl) ?_
        refine hx_getL S X (ci := 7) 0 (mW_0 _ _ _) rfl hin7 2 (by decide) (by decide +kernel) rfl dX7_call_40 ?_
        refine lv_iload_n hx hb dX7_call_43 rfl (lv_at hl 1 rfl) ?_
        refine mx_ld S X 2 (N := 4) (mW_2 _ _ _) (j := th) (by omega) (by decide) (x := nI (dN σ th)) (hd0) dX7_call_44 ?_
        refine lv_iadd hx hb dX7_call_45 ?_
        refine hx_ei (show _ = nI ((8) * (th) + dN σ th) from nI_add ((8) * (th)) (dN σ th)) ?_
        refine lv_istore_n (lv' := [(3, .int (nI ((8) * (th) + dN σ th))), (0, .ref (ad 0)), (1, .int (nI (th))), (2, .int (nI (t)))]) hx hb dX7_call_46 rfl hl (by decide) rfl (fun ls hl => ?_)
        refine lv_aload_n hx hb dX7_call_47 rfl (lv_at hl 1 rfl) ?_
        refine hx_getL S X (ci := 7) 0 (mW_0 _ _ _) rfl hin7 3 (by decide) (by decide +kernel) rfl dX7_call_48 ?_
        refine lv_iload_n hx hb dX7_call_51 rfl (lv_at hl 0 rfl) ?_
        refine lv_iload_n hx hb dX7_call_52 rfl (lv_at hl 3 rfl) ?_
        refine mx_st S X 3 (N := 32) (mW_3 _ _ _) (j := (8) * (th) + dN σ th) (by omega) (by decide) (x := nI (t)) dX7_call_53 (mW_s3 _ _ _ _ _) (fun H locs X => ?_)
        refine lv_aload_n hx hb dX7_call_54 rfl (lv_at hl 1 rfl) ?_
        refine hx_getL S X (ci := 7) 0 (mW_0 _ _ _) rfl hin7 4 (by decide) (by decide +kernel) rfl dX7_call_55 ?_
        refine lv_iload_n hx hb dX7_call_58 rfl (lv_at hl 0 rfl) ?_
        refine lv_aload_n hx hb dX7_call_59 rfl (lv_at hl 1 rfl) ?_
        refine lv_iload_n hx hb dX7_call_60 rfl (lv_at hl 3 rfl) ?_
        refine hx_Vi (rest := [.int (nI ((8) * (th) + dN σ th)), .ref (ad 4)]) S X (c_X7_current l G ad (mS σ 3 ((8) * (th) + dN σ th) (nI (t))) (t) (by omega)) gX7_call_X7_current rfl (n := 1) (by decide +kernel) rfl ⟨(Nat.le_of_ble_eq_true rfl), (Nat.le_of_ble_eq_true rfl)⟩ (hx_recvL (q0 := 0) (ci := 7) X rfl (mW_0 _ _ _)) hl.1 rfl (Nat.le_of_ble_eq_true rfl) dX7_call_61 ⟨(Nat.le_of_ble_eq_true rfl), (Nat.le_of_ble_eq_true rfl)⟩ (fun r wd1 H locs hp X => ?_)
        obtain ⟨rfl, rfl⟩ := hp
        refine hx_ei (show _ = nI (cnt σ t) - 1 from by rw [show (mS σ 3 ((8) * (th) + dN σ th) (nI (t))) 1 (162 * t + 0) = nI (cnt σ t) from by rw [mS_nk _ _ _ _ (by decide)]; exact hk0]) ?_
        refine mx_st S X 4 (N := 32) (mW_4 _ _ _) (j := (8) * (th) + dN σ th) (by omega) (by decide) (x := nI (cnt σ t) - 1) dX7_call_64 (mW_s4 _ _ _ _ _) (fun H locs X => ?_)
        refine lv_aload_n hx hb dX7_call_65 rfl (lv_at hl 1 rfl) ?_
        refine hx_getL S X (ci := 7) 0 (mW_0 _ _ _) rfl hin7 5 (by decide) (by decide +kernel) rfl dX7_call_66 ?_
        refine lv_iload_n hx hb dX7_call_69 rfl (lv_at hl 0 rfl) ?_
        refine lv_iconst (v := 0) hx hb dX7_call_70 (by decide) ?_
        refine mx_st S X 5 (N := 32) (mW_5 _ _ _) (j := (8) * (th) + dN σ th) (by omega) (by decide) (x := (0 : Int32)) dX7_call_71 (mW_s5 _ _ _ _ _) (fun H locs X => ?_)
        refine lv_aload_n hx hb dX7_call_72 rfl (lv_at hl 1 rfl) ?_
        refine hx_getL S X (ci := 7) 0 (mW_0 _ _ _) rfl hin7 2 (by decide) (by decide +kernel) rfl dX7_call_73 ?_
        refine lv_iload_n hx hb dX7_call_76 rfl (lv_at hl 2 rfl) ?_
        refine lv_dup2_11 hx hb dX7_call_77 rfl rfl ?_
        refine mx_ld S X 2 (N := 4) (mW_2 _ _ _) (j := th) (by omega) (by decide) (x := nI (dN σ th)) (by rw [mS_nk _ _ _ _ (by decide), mS_nk _ _ _ _ (by decide), mS_nk _ _ _ _ (by decide)]; exact hd0) dX7_call_78 ?_
        refine lv_iconst (v := 1) hx hb dX7_call_79 (by decide) ?_
        refine lv_iadd hx hb dX7_call_80 ?_
        refine hx_ei (show _ = nI (dN σ th + 1) from nI_add (dN σ th) (1)) ?_
        refine mx_st S X 2 (N := 4) (mW_2 _ _ _) (j := th) (by omega) (by decide) (x := nI (dN σ th + 1)) dX7_call_81 (mW_s2 _ _ _ _ _) (fun H locs X => ?_)
        refine lv_aload_n hx hb dX7_call_82 rfl (lv_at hl 1 rfl) ?_
        refine hx_getL S X (ci := 7) 0 (mW_0 _ _ _) rfl hin7 2 (by decide) (by decide +kernel) rfl dX7_call_83 ?_
        refine lv_iload_n hx hb dX7_call_86 rfl (lv_at hl 2 rfl) ?_
        refine mx_ld S X 2 (N := 4) (mW_2 _ _ _) (j := th) (by omega) (by decide) (x := nI (dN σ th + 1)) (by rw [mS_eq]) dX7_call_87 ?_
        exact hx_iret S X hr hlk (Nat.le_of_ble_eq_true rfl) (Nat.le_of_ble_eq_true rfl) (by simp [M_call, wif_t, wif_f, h1', hcth, h12', hct, c29]) dX7_call_88
      · skip
        have c29 := (nI_eq (a := dN σ th) (b := 8) (by omega) (by omega)).mp c29
        refine lv_ldc (v := -2000010) hx hb hown (hts (Cond.constant RX7 57 (-2000010)) (by decide +kernel)) dX7_call_32 ?_
        exact hx_iret S X hr hlk (Nat.le_of_ble_eq_true rfl) (Nat.le_of_ble_eq_true rfl) (by simp [M_call, wif_t, wif_f, h1', hcth, h12', hct, c29]) dX7_call_34
    · skip
      refine hx_ei (hr12.2 h12) ?_
      refine lv_if_ne (tgt := 21) hx hb dX7_call_15 (by decide) (fun c9 => absurd (by decide) c9) (fun _ => ?_)
      refine lv_ldc (v := -2000001) hx hb hown (hts (Cond.constant RX7 66 (-2000001)) (by decide +kernel)) dX7_call_18 ?_
      exact hx_iret S X hr hlk (Nat.le_of_ble_eq_true rfl) (Nat.le_of_ble_eq_true rfl) (by simp [M_call, wif_t, wif_f, h1', hcth, h12]) dX7_call_20
  · skip
    refine hx_ei (hr1.2 h1) ?_
    refine lv_if_ne (tgt := 10) hx hb dX7_call_4 (by decide) (fun c9 => absurd (by decide) c9) (fun _ => ?_)
    refine lv_ldc (v := -2000003) hx hb hown (hts (Cond.constant RX7 106 (-2000003)) (by decide +kernel)) dX7_call_7 ?_
    exact hx_iret S X hr hlk (Nat.le_of_ble_eq_true rfl) (Nat.le_of_ble_eq_true rfl) (by simp [M_call, wif_t, wif_f, h1]) dX7_call_9

set_option maxRecDepth 100000 in
set_option maxHeartbeats 4000000 in
theorem c_X7_finish (l : Launch) (G : hG) (ad : Nat → Nat) (σ : Sg) (thread : Int32) (hI : Inv σ) : hMi l G yX7_finish wsX7_finish ({ frames := 2, cells := 0, slots := 0, locals := 42 } : Room) (mW G ad σ) [.ref (ad 0), .int (thread)] (fun r w => r = (M_finish σ thread).1 ∧ w = mW G ad (M_finish σ thread).2) := by
  refine hMi.of (cc := cX7_finish) (maxL := 2) (some .int) RX7 rfl (by decide +kernel) rfl (Nat.le_of_ble_eq_true rfl) ?_
  intro p e s m args below meth c S hr hlk X ls hl
  have hx := S.1
  have hb := S.2.1
  have hown := S.2.2.2.1
  have hts := S.2.2.2.2
  have hl : lv_has ls 2 [(0, .ref (ad 0)), (1, .int (thread))] := hl
  have hin7 : ∀ w ∈ wsX70, w ∈ wsX7_finish := by decide +kernel
  have hC6 : nC σ ≤ 6 := hI.1.2
  have hO24 : nO σ ≤ 24 := hI.2.1.2
  refine lv_iload_n hx hb dX7_finish_0 rfl (lv_at hl 1 rfl) ?_
  refine hx_Si (rest := []) S X (c_X7_isThread l G _ (thread)) gX7_finish_X7_isThread rfl (n := 1) (by decide +kernel) rfl ⟨(Nat.le_of_ble_eq_true rfl), (Nat.le_of_ble_eq_true rfl)⟩ hl.1 rfl (Nat.le_of_ble_eq_true rfl) dX7_finish_1 ⟨(Nat.le_of_ble_eq_true rfl), (Nat.le_of_ble_eq_true rfl)⟩ (fun r wd1 H locs hp X => ?_)
  obtain ⟨hr1, rfl⟩ := hp
  by_cases h1 : isT (thread)
  · skip
    refine hx_ei (hr1.1 h1) ?_
    have h1' := h1
    obtain ⟨th, hth, rfl⟩ := h1
    have hcth : (nI th).toNatClampNeg = th := nI_clamp (by omega)
    obtain ⟨hd0, hd8⟩ := hI.2.2.2.1 th hth
    refine lv_if_ne (tgt := 10) hx hb dX7_finish_4 (by decide) (fun _ => ?_) (fun c9 => absurd c9 (by decide))
    refine lv_aload_n hx hb dX7_finish_10 rfl (lv_at hl 0 rfl) ?_
    refine hx_getL S X (ci := 7) 0 (mW_0 _ _ _) rfl hin7 2 (by decide) (by decide +kernel) rfl dX7_finish_11 ?_
    refine lv_iload_n hx hb dX7_finish_14 rfl (lv_at hl 1 rfl) ?_
    refine mx_ld S X 2 (N := 4) (mW_2 _ _ _) (j := th) (by omega) (by decide) (x := nI (dN σ th)) (hd0) dX7_finish_15 ?_
    refine lv_if_ne (tgt := 22) hx hb dX7_finish_16 (by decide) (fun c16 => ?_) (fun c16 => ?_)
    · skip
      have c16 := (not_congr (nI_eq (a := dN σ th) (b := 0) (by omega) (by omega))).mp c16
      refine lv_aload_n hx hb dX7_finish_22 rfl (lv_at hl 0 rfl) ?_
      refine hx_getL S X (ci := 7) 0 (mW_0 _ _ _) rfl hin7 2 (by decide) (by decide +kernel) rfl dX7_finish_23 ?_
      refine lv_iload_n hx hb dX7_finish_26 rfl (lv_at hl 1 rfl) ?_
      refine lv_dup2_11 hx hb dX7_finish_27 rfl rfl ?_
      refine mx_ld S X 2 (N := 4) (mW_2 _ _ _) (j := th) (by omega) (by decide) (x := nI (dN σ th)) (hd0) dX7_finish_28 ?_
      refine lv_iconst (v := 1) hx hb dX7_finish_29 (by decide) ?_
      refine lv_isub hx hb dX7_finish_30 ?_
      refine hx_ei (show _ = nI ((dN σ th) - (1)) from pk_sub (a := dN σ th) (b := 1) (by omega)) ?_
      refine mx_st S X 2 (N := 4) (mW_2 _ _ _) (j := th) (by omega) (by decide) (x := nI ((dN σ th) - (1))) dX7_finish_31 (mW_s2 _ _ _ _ _) (fun H locs X => ?_)
      refine lv_aload_n hx hb dX7_finish_32 rfl (lv_at hl 0 rfl) ?_
      refine hx_getL S X (ci := 7) 0 (mW_0 _ _ _) rfl hin7 2 (by decide) (by decide +kernel) rfl dX7_finish_33 ?_
      refine lv_iload_n hx hb dX7_finish_36 rfl (lv_at hl 1 rfl) ?_
      refine mx_ld S X 2 (N := 4) (mW_2 _ _ _) (j := th) (by omega) (by decide) (x := nI ((dN σ th) - (1))) (by rw [mS_eq]) dX7_finish_37 ?_
      exact hx_iret S X hr hlk (Nat.le_of_ble_eq_true rfl) (Nat.le_of_ble_eq_true rfl) (by simp [M_finish, wif_t, wif_f, h1', hcth, c16]) dX7_finish_38
    · skip
      have c16 := (nI_eq (a := dN σ th) (b := 0) (by omega) (by omega)).mp c16
      refine lv_ldc (v := -2000006) hx hb hown (hts (Cond.constant RX7 107 (-2000006)) (by decide +kernel)) dX7_finish_19 ?_
      exact hx_iret S X hr hlk (Nat.le_of_ble_eq_true rfl) (Nat.le_of_ble_eq_true rfl) (by simp [M_finish, wif_t, wif_f, h1', hcth, c16]) dX7_finish_21
  · skip
    refine hx_ei (hr1.2 h1) ?_
    refine lv_if_ne (tgt := 10) hx hb dX7_finish_4 (by decide) (fun c9 => absurd (by decide) c9) (fun _ => ?_)
    refine lv_ldc (v := -2000003) hx hb hown (hts (Cond.constant RX7 106 (-2000003)) (by decide +kernel)) dX7_finish_7 ?_
    exact hx_iret S X hr hlk (Nat.le_of_ble_eq_true rfl) (Nat.le_of_ble_eq_true rfl) (by simp [M_finish, wif_t, wif_f, h1]) dX7_finish_9

set_option maxRecDepth 100000 in
set_option maxHeartbeats 4000000 in
theorem c_X7_depth (l : Launch) (G : hG) (ad : Nat → Nat) (σ : Sg) (thread : Int32) (hI : Inv σ) : hMi l G yX7_depth wsX7_depth ({ frames := 2, cells := 0, slots := 0, locals := 42 } : Room) (mW G ad σ) [.ref (ad 0), .int (thread)] (fun r w => r = (M_depth σ thread).1 ∧ w = mW G ad (M_depth σ thread).2) := by
  refine hMi.of (cc := cX7_depth) (maxL := 2) (some .int) RX7 rfl (by decide +kernel) rfl (Nat.le_of_ble_eq_true rfl) ?_
  intro p e s m args below meth c S hr hlk X ls hl
  have hx := S.1
  have hb := S.2.1
  have hown := S.2.2.2.1
  have hts := S.2.2.2.2
  have hl : lv_has ls 2 [(0, .ref (ad 0)), (1, .int (thread))] := hl
  have hin7 : ∀ w ∈ wsX70, w ∈ wsX7_depth := by decide +kernel
  have hC6 : nC σ ≤ 6 := hI.1.2
  have hO24 : nO σ ≤ 24 := hI.2.1.2
  refine lv_iload_n hx hb dX7_depth_0 rfl (lv_at hl 1 rfl) ?_
  refine hx_Si (rest := []) S X (c_X7_isThread l G _ (thread)) gX7_depth_X7_isThread rfl (n := 1) (by decide +kernel) rfl ⟨(Nat.le_of_ble_eq_true rfl), (Nat.le_of_ble_eq_true rfl)⟩ hl.1 rfl (Nat.le_of_ble_eq_true rfl) dX7_depth_1 ⟨(Nat.le_of_ble_eq_true rfl), (Nat.le_of_ble_eq_true rfl)⟩ (fun r wd1 H locs hp X => ?_)
  obtain ⟨hr1, rfl⟩ := hp
  by_cases h1 : isT (thread)
  · skip
    refine hx_ei (hr1.1 h1) ?_
    have h1' := h1
    obtain ⟨th, hth, rfl⟩ := h1
    have hcth : (nI th).toNatClampNeg = th := nI_clamp (by omega)
    obtain ⟨hd0, hd8⟩ := hI.2.2.2.1 th hth
    refine lv_if_eq (tgt := 16) hx hb dX7_depth_4 (by decide) (fun c9 => absurd c9 (by decide)) (fun _ => ?_)
    refine lv_aload_n hx hb dX7_depth_7 rfl (lv_at hl 0 rfl) ?_
    refine hx_getL S X (ci := 7) 0 (mW_0 _ _ _) rfl hin7 2 (by decide) (by decide +kernel) rfl dX7_depth_8 ?_
    refine lv_iload_n hx hb dX7_depth_11 rfl (lv_at hl 1 rfl) ?_
    refine mx_ld S X 2 (N := 4) (mW_2 _ _ _) (j := th) (by omega) (by decide) (x := nI (dN σ th)) (hd0) dX7_depth_12 ?_
    refine lv_goto (tgt := 18) hx hb dX7_depth_13 (by decide) ?_
    exact hx_iret S X hr hlk (Nat.le_of_ble_eq_true rfl) (Nat.le_of_ble_eq_true rfl) (by simp [M_depth, wif_t, wif_f, h1', hcth]) dX7_depth_18
  · skip
    refine hx_ei (hr1.2 h1) ?_
    refine lv_if_eq (tgt := 16) hx hb dX7_depth_4 (by decide) (fun _ => ?_) (fun c9 => absurd (by decide) c9)
    refine lv_ldc (v := -2000003) hx hb hown (hts (Cond.constant RX7 106 (-2000003)) (by decide +kernel)) dX7_depth_16 ?_
    exact hx_iret S X hr hlk (Nat.le_of_ble_eq_true rfl) (Nat.le_of_ble_eq_true rfl) (by simp [M_depth, wif_t, wif_f, h1]) dX7_depth_18

set_option maxRecDepth 100000 in
set_option maxHeartbeats 4000000 in
theorem c_X7_frameClass (l : Launch) (G : hG) (ad : Nat → Nat) (σ : Sg) (thread index : Int32) (hI : Inv σ) : hMi l G yX7_frameClass wsX7_frameClass ({ frames := 2, cells := 0, slots := 0, locals := 42 } : Room) (mW G ad σ) [.ref (ad 0), .int (thread), .int (index)] (fun r w => r = (M_frameClass σ thread index).1 ∧ w = mW G ad (M_frameClass σ thread index).2) := by
  refine hMi.of (cc := cX7_frameClass) (maxL := 3) (some .int) RX7 rfl (by decide +kernel) rfl (Nat.le_of_ble_eq_true rfl) ?_
  intro p e s m args below meth c S hr hlk X ls hl
  have hx := S.1
  have hb := S.2.1
  have hown := S.2.2.2.1
  have hts := S.2.2.2.2
  have hl : lv_has ls 3 [(0, .ref (ad 0)), (1, .int (thread)), (2, .int (index))] := hl
  have hin7 : ∀ w ∈ wsX70, w ∈ wsX7_frameClass := by decide +kernel
  have hC6 : nC σ ≤ 6 := hI.1.2
  have hO24 : nO σ ≤ 24 := hI.2.1.2
  refine lv_iload_n hx hb dX7_frameClass_0 rfl (lv_at hl 1 rfl) ?_
  refine hx_Si (rest := []) S X (c_X7_isThread l G _ (thread)) gX7_frameClass_X7_isThread rfl (n := 1) (by decide +kernel) rfl ⟨(Nat.le_of_ble_eq_true rfl), (Nat.le_of_ble_eq_true rfl)⟩ hl.1 rfl (Nat.le_of_ble_eq_true rfl) dX7_frameClass_1 ⟨(Nat.le_of_ble_eq_true rfl), (Nat.le_of_ble_eq_true rfl)⟩ (fun r wd1 H locs hp X => ?_)
  obtain ⟨hr1, rfl⟩ := hp
  by_cases h1 : isT (thread)
  · skip
    refine hx_ei (hr1.1 h1) ?_
    have h1' := h1
    obtain ⟨th, hth, rfl⟩ := h1
    have hcth : (nI th).toNatClampNeg = th := nI_clamp (by omega)
    obtain ⟨hd0, hd8⟩ := hI.2.2.2.1 th hth
    refine lv_if_ne (tgt := 10) hx hb dX7_frameClass_4 (by decide) (fun _ => ?_) (fun c9 => absurd c9 (by decide))
    refine lv_iload_n hx hb dX7_frameClass_10 rfl (lv_at hl 2 rfl) ?_
    refine lv_iconst (v := 0) hx hb dX7_frameClass_11 (by decide) ?_
    refine lv_aload_n hx hb dX7_frameClass_12 rfl (lv_at hl 0 rfl) ?_
    refine hx_getL S X (ci := 7) 0 (mW_0 _ _ _) rfl hin7 2 (by decide) (by decide +kernel) rfl dX7_frameClass_13 ?_
    refine lv_iload_n hx hb dX7_frameClass_16 rfl (lv_at hl 1 rfl) ?_
    refine mx_ld S X 2 (N := 4) (mW_2 _ _ _) (j := th) (by omega) (by decide) (x := nI (dN σ th)) (hd0) dX7_frameClass_17 ?_
    refine lv_iconst (v := 1) hx hb dX7_frameClass_18 (by decide) ?_
    refine lv_isub hx hb dX7_frameClass_19 ?_
    refine hx_ei (show _ = nI (dN σ th) - 1 from rfl) ?_
    refine hx_Si (rest := []) S X (c_X7_in l G _ (index) ((0 : Int32)) (nI (dN σ th) - 1)) gX7_frameClass_X7_in rfl (n := 3) (by decide +kernel) rfl ⟨(Nat.le_of_ble_eq_true rfl), (Nat.le_of_ble_eq_true rfl)⟩ hl.1 rfl (Nat.le_of_ble_eq_true rfl) dX7_frameClass_20 ⟨(Nat.le_of_ble_eq_true rfl), (Nat.le_of_ble_eq_true rfl)⟩ (fun r wd1 H locs hp X => ?_)
    obtain ⟨hr20, rfl⟩ := hp
    by_cases h20 : 0 ≤ index ∧ index ≤ nI (dN σ th) - 1
    · skip
      refine hx_ei (hr20.1 h20) ?_
      have h20a := (in_m1 (by omega) index).mp h20
      obtain ⟨k, hk, rfl⟩ := (in_m1 (by omega) index).mp h20
      have hck : (nI k).toNatClampNeg = k := nI_clamp (by omega)
      refine lv_if_eq (tgt := 40) hx hb dX7_frameClass_23 (by decide) (fun c9 => absurd c9 (by decide)) (fun _ => ?_)
      refine lv_aload_n hx hb dX7_frameClass_26 rfl (lv_at hl 0 rfl) ?_
      refine hx_getL S X (ci := 7) 0 (mW_0 _ _ _) rfl hin7 3 (by decide) (by decide +kernel) rfl dX7_frameClass_27 ?_
      refine lv_bipush (v := 8) hx hb dX7_frameClass_30 (by decide) ?_
      refine lv_iload_n hx hb dX7_frameClass_32 rfl (lv_at hl 1 rfl) ?_
      refine lv_imul hx hb dX7_frameClass_33 ?_
      refine hx_ei (show _ = nI ((8) * (th)) from pk_mul (8) (th)) ?_
      refine lv_iload_n hx hb dX7_frameClass_34 rfl (lv_at hl 2 rfl) ?_
      refine lv_iadd hx hb dX7_frameClass_35 ?_
      refine hx_ei (show _ = nI ((8) * (th) + k) from nI_add ((8) * (th)) (k)) ?_
      refine mx_ld S X 3 (N := 32) (mW_3 _ _ _) (j := (8) * (th) + k) (by omega) (by decide) (x := σ 3 ((8) * (th) + k)) (rfl) dX7_frameClass_36 ?_
      refine lv_goto (tgt := 42) hx hb dX7_frameClass_37 (by decide) ?_
      exact hx_iret S X hr hlk (Nat.le_of_ble_eq_true rfl) (Nat.le_of_ble_eq_true rfl) (by simp [M_frameClass, wif_t, wif_f, h1', hcth, h20a, hck]) dX7_frameClass_42
    · skip
      refine hx_ei (hr20.2 h20) ?_
      have h20a : ¬ ∃ j, j < dN σ th ∧ index = nI j := fun h => h20 ((in_m1 (by omega) index).mpr h)
      refine lv_if_eq (tgt := 40) hx hb dX7_frameClass_23 (by decide) (fun _ => ?_) (fun c9 => absurd (by decide) c9)
      refine lv_ldc (v := -2000006) hx hb hown (hts (Cond.constant RX7 107 (-2000006)) (by decide +kernel)) dX7_frameClass_40 ?_
      exact hx_iret S X hr hlk (Nat.le_of_ble_eq_true rfl) (Nat.le_of_ble_eq_true rfl) (by simp [M_frameClass, wif_t, wif_f, h1', hcth, h20, h20a]) dX7_frameClass_42
  · skip
    refine hx_ei (hr1.2 h1) ?_
    refine lv_if_ne (tgt := 10) hx hb dX7_frameClass_4 (by decide) (fun c9 => absurd (by decide) c9) (fun _ => ?_)
    refine lv_ldc (v := -2000003) hx hb hown (hts (Cond.constant RX7 106 (-2000003)) (by decide +kernel)) dX7_frameClass_7 ?_
    exact hx_iret S X hr hlk (Nat.le_of_ble_eq_true rfl) (Nat.le_of_ble_eq_true rfl) (by simp [M_frameClass, wif_t, wif_f, h1]) dX7_frameClass_9

set_option maxRecDepth 100000 in
set_option maxHeartbeats 4000000 in
theorem c_X7_frameVersion (l : Launch) (G : hG) (ad : Nat → Nat) (σ : Sg) (thread index : Int32) (hI : Inv σ) : hMi l G yX7_frameVersion wsX7_frameVersion ({ frames := 2, cells := 0, slots := 0, locals := 42 } : Room) (mW G ad σ) [.ref (ad 0), .int (thread), .int (index)] (fun r w => r = (M_frameVersion σ thread index).1 ∧ w = mW G ad (M_frameVersion σ thread index).2) := by
  refine hMi.of (cc := cX7_frameVersion) (maxL := 3) (some .int) RX7 rfl (by decide +kernel) rfl (Nat.le_of_ble_eq_true rfl) ?_
  intro p e s m args below meth c S hr hlk X ls hl
  have hx := S.1
  have hb := S.2.1
  have hown := S.2.2.2.1
  have hts := S.2.2.2.2
  have hl : lv_has ls 3 [(0, .ref (ad 0)), (1, .int (thread)), (2, .int (index))] := hl
  have hin7 : ∀ w ∈ wsX70, w ∈ wsX7_frameVersion := by decide +kernel
  have hC6 : nC σ ≤ 6 := hI.1.2
  have hO24 : nO σ ≤ 24 := hI.2.1.2
  refine lv_iload_n hx hb dX7_frameVersion_0 rfl (lv_at hl 1 rfl) ?_
  refine hx_Si (rest := []) S X (c_X7_isThread l G _ (thread)) gX7_frameVersion_X7_isThread rfl (n := 1) (by decide +kernel) rfl ⟨(Nat.le_of_ble_eq_true rfl), (Nat.le_of_ble_eq_true rfl)⟩ hl.1 rfl (Nat.le_of_ble_eq_true rfl) dX7_frameVersion_1 ⟨(Nat.le_of_ble_eq_true rfl), (Nat.le_of_ble_eq_true rfl)⟩ (fun r wd1 H locs hp X => ?_)
  obtain ⟨hr1, rfl⟩ := hp
  by_cases h1 : isT (thread)
  · skip
    refine hx_ei (hr1.1 h1) ?_
    have h1' := h1
    obtain ⟨th, hth, rfl⟩ := h1
    have hcth : (nI th).toNatClampNeg = th := nI_clamp (by omega)
    obtain ⟨hd0, hd8⟩ := hI.2.2.2.1 th hth
    refine lv_if_ne (tgt := 10) hx hb dX7_frameVersion_4 (by decide) (fun _ => ?_) (fun c9 => absurd c9 (by decide))
    refine lv_iload_n hx hb dX7_frameVersion_10 rfl (lv_at hl 2 rfl) ?_
    refine lv_iconst (v := 0) hx hb dX7_frameVersion_11 (by decide) ?_
    refine lv_aload_n hx hb dX7_frameVersion_12 rfl (lv_at hl 0 rfl) ?_
    refine hx_getL S X (ci := 7) 0 (mW_0 _ _ _) rfl hin7 2 (by decide) (by decide +kernel) rfl dX7_frameVersion_13 ?_
    refine lv_iload_n hx hb dX7_frameVersion_16 rfl (lv_at hl 1 rfl) ?_
    refine mx_ld S X 2 (N := 4) (mW_2 _ _ _) (j := th) (by omega) (by decide) (x := nI (dN σ th)) (hd0) dX7_frameVersion_17 ?_
    refine lv_iconst (v := 1) hx hb dX7_frameVersion_18 (by decide) ?_
    refine lv_isub hx hb dX7_frameVersion_19 ?_
    refine hx_ei (show _ = nI (dN σ th) - 1 from rfl) ?_
    refine hx_Si (rest := []) S X (c_X7_in l G _ (index) ((0 : Int32)) (nI (dN σ th) - 1)) gX7_frameVersion_X7_in rfl (n := 3) (by decide +kernel) rfl ⟨(Nat.le_of_ble_eq_true rfl), (Nat.le_of_ble_eq_true rfl)⟩ hl.1 rfl (Nat.le_of_ble_eq_true rfl) dX7_frameVersion_20 ⟨(Nat.le_of_ble_eq_true rfl), (Nat.le_of_ble_eq_true rfl)⟩ (fun r wd1 H locs hp X => ?_)
    obtain ⟨hr20, rfl⟩ := hp
    by_cases h20 : 0 ≤ index ∧ index ≤ nI (dN σ th) - 1
    · skip
      refine hx_ei (hr20.1 h20) ?_
      have h20a := (in_m1 (by omega) index).mp h20
      obtain ⟨k, hk, rfl⟩ := (in_m1 (by omega) index).mp h20
      have hck : (nI k).toNatClampNeg = k := nI_clamp (by omega)
      refine lv_if_eq (tgt := 40) hx hb dX7_frameVersion_23 (by decide) (fun c9 => absurd c9 (by decide)) (fun _ => ?_)
      refine lv_aload_n hx hb dX7_frameVersion_26 rfl (lv_at hl 0 rfl) ?_
      refine hx_getL S X (ci := 7) 0 (mW_0 _ _ _) rfl hin7 4 (by decide) (by decide +kernel) rfl dX7_frameVersion_27 ?_
      refine lv_bipush (v := 8) hx hb dX7_frameVersion_30 (by decide) ?_
      refine lv_iload_n hx hb dX7_frameVersion_32 rfl (lv_at hl 1 rfl) ?_
      refine lv_imul hx hb dX7_frameVersion_33 ?_
      refine hx_ei (show _ = nI ((8) * (th)) from pk_mul (8) (th)) ?_
      refine lv_iload_n hx hb dX7_frameVersion_34 rfl (lv_at hl 2 rfl) ?_
      refine lv_iadd hx hb dX7_frameVersion_35 ?_
      refine hx_ei (show _ = nI ((8) * (th) + k) from nI_add ((8) * (th)) (k)) ?_
      refine mx_ld S X 4 (N := 32) (mW_4 _ _ _) (j := (8) * (th) + k) (by omega) (by decide) (x := σ 4 ((8) * (th) + k)) (rfl) dX7_frameVersion_36 ?_
      refine lv_goto (tgt := 42) hx hb dX7_frameVersion_37 (by decide) ?_
      exact hx_iret S X hr hlk (Nat.le_of_ble_eq_true rfl) (Nat.le_of_ble_eq_true rfl) (by simp [M_frameVersion, wif_t, wif_f, h1', hcth, h20a, hck]) dX7_frameVersion_42
    · skip
      refine hx_ei (hr20.2 h20) ?_
      have h20a : ¬ ∃ j, j < dN σ th ∧ index = nI j := fun h => h20 ((in_m1 (by omega) index).mpr h)
      refine lv_if_eq (tgt := 40) hx hb dX7_frameVersion_23 (by decide) (fun _ => ?_) (fun c9 => absurd (by decide) c9)
      refine lv_ldc (v := -2000006) hx hb hown (hts (Cond.constant RX7 107 (-2000006)) (by decide +kernel)) dX7_frameVersion_40 ?_
      exact hx_iret S X hr hlk (Nat.le_of_ble_eq_true rfl) (Nat.le_of_ble_eq_true rfl) (by simp [M_frameVersion, wif_t, wif_f, h1', hcth, h20, h20a]) dX7_frameVersion_42
  · skip
    refine hx_ei (hr1.2 h1) ?_
    refine lv_if_ne (tgt := 10) hx hb dX7_frameVersion_4 (by decide) (fun c9 => absurd (by decide) c9) (fun _ => ?_)
    refine lv_ldc (v := -2000003) hx hb hown (hts (Cond.constant RX7 106 (-2000003)) (by decide +kernel)) dX7_frameVersion_7 ?_
    exact hx_iret S X hr hlk (Nat.le_of_ble_eq_true rfl) (Nat.le_of_ble_eq_true rfl) (by simp [M_frameVersion, wif_t, wif_f, h1]) dX7_frameVersion_9

set_option maxRecDepth 100000 in
set_option maxHeartbeats 4000000 in
theorem c_X7_isThere (l : Launch) (G : hG) (ad : Nat → Nat) (σ : Sg) (j : Nat) (hI : Inv σ) (hj : j < 32) : hMi l G yX7_isThere wsX7_isThere ({ frames := 0, cells := 0, slots := 0, locals := 0 } : Room) (mW G ad σ) [.ref (ad 0), .int (nI (j))] (fun r w => isB r (liv σ j) ∧ w = (mW G ad σ)) := by
  refine hMi.of (cc := cX7_isThere) (maxL := 2) (some .boolean) RX7 rfl (by decide +kernel) rfl (Nat.le_of_ble_eq_true rfl) ?_
  intro p e s m args below meth c S hr hlk X ls hl
  have hx := S.1
  have hb := S.2.1
  have hown := S.2.2.2.1
  have hts := S.2.2.2.2
  have hl : lv_has ls 2 [(0, .ref (ad 0)), (1, .int (nI (j)))] := hl
  have hin7 : ∀ w ∈ wsX70, w ∈ wsX7_isThere := by decide +kernel
  obtain ⟨hd0, hd8⟩ := hI.2.2.2.1 (j / 8) (by omega)
  refine lv_iload_n hx hb dX7_isThere_0 rfl (lv_at hl 1 rfl) ?_
  refine lv_bipush (v := 8) hx hb dX7_isThere_1 (by decide) ?_
  refine lv_irem hx hb dX7_isThere_3 (by decide) ?_
  refine hx_ei (show _ = nI ((j) % (8)) from pk_rem (a := j) (d := 8) (by omega) (by omega) (by omega)) ?_
  refine lv_aload_n hx hb dX7_isThere_4 rfl (lv_at hl 0 rfl) ?_
  refine hx_getL S X (ci := 7) 0 (mW_0 _ _ _) rfl hin7 2 (by decide) (by decide +kernel) rfl dX7_isThere_5 ?_
  refine lv_iload_n hx hb dX7_isThere_8 rfl (lv_at hl 1 rfl) ?_
  refine lv_bipush (v := 8) hx hb dX7_isThere_9 (by decide) ?_
  refine lv_idiv hx hb dX7_isThere_11 (by decide) ?_
  refine hx_ei (show _ = nI ((j) / (8)) from pk_div (a := j) (d := 8) (by omega) (by omega) (by omega)) ?_
  refine mx_ld S X 2 (N := 4) (mW_2 _ _ _) (j := (j) / (8)) (by omega) (by decide) (x := nI (dN σ (j / 8))) (hd0) dX7_isThere_12 ?_
  refine lv_icmp_ge (tgt := 20) hx hb dX7_isThere_13 (by decide) (fun c13 => ?_) (fun c13 => ?_)
  · skip
    have c13 := (nI_leI (a := dN σ (j / 8)) (b := (j) % (8)) (by omega) (by omega)).mp c13
    refine lv_iconst (v := 0) hx hb dX7_isThere_20 (by decide) ?_
    exact hx_zret S X hr hlk (Nat.le_of_ble_eq_true rfl) (Nat.le_of_ble_eq_true rfl) (by decide) ⟨isB_f (by unfold liv; omega) rfl, rfl⟩ dX7_isThere_21
  · skip
    have c13 := (not_congr (nI_leI (a := dN σ (j / 8)) (b := (j) % (8)) (by omega) (by omega))).mp c13
    refine lv_iconst (v := 1) hx hb dX7_isThere_16 (by decide) ?_
    refine lv_goto (tgt := 21) hx hb dX7_isThere_17 (by decide) ?_
    exact hx_zret S X hr hlk (Nat.le_of_ble_eq_true rfl) (Nat.le_of_ble_eq_true rfl) (by decide) ⟨isB_t (by unfold liv; omega) rfl, rfl⟩ dX7_isThere_21

set_option maxRecDepth 100000 in
set_option maxHeartbeats 4000000 in
theorem c_X7_runs (l : Launch) (G : hG) (ad : Nat → Nat) (σ : Sg) (type version : Int32) (hI : Inv σ) : hMi l G yX7_runs wsX7_runs ({ frames := 1, cells := 0, slots := 0, locals := 21 } : Room) (mW G ad σ) [.ref (ad 0), .int (type), .int (version)] (fun r w => isB r (∃ j, j < 32 ∧ runP σ type version j) ∧ w = mW G ad σ) := by
  refine hMi.of (cc := cX7_runs) (maxL := 5) (some .boolean) RX7 rfl (by decide +kernel) rfl (Nat.le_of_ble_eq_true rfl) ?_
  intro p e s m args below meth c S hr hlk X ls hl
  have hx := S.1
  have hb := S.2.1
  have hown := S.2.2.2.1
  have hts := S.2.2.2.2
  have hl : lv_has ls 5 [(0, .ref (ad 0)), (1, .int (type)), (2, .int (version))] := hl
  have hin7 : ∀ w ∈ wsX70, w ∈ wsX7_runs := by decide +kernel
  have hC6 : nC σ ≤ 6 := hI.1.2
  have hO24 : nO σ ≤ 24 := hI.2.1.2
  refine lv_iconst (v := 0) hx hb dX7_runs_0 (by decide) ?_
  refine lv_istore_n (lv' := [(3, .int ((0 : Int32))), (0, .ref (ad 0)), (1, .int (type)), (2, .int (version))]) hx hb dX7_runs_1 rfl hl (by decide) rfl (fun ls hl => ?_)
  refine lv_iconst (v := 0) hx hb dX7_runs_2 (by decide) ?_
  refine lv_istore (lv' := [(4, .int ((0 : Int32))), (3, .int ((0 : Int32))), (0, .ref (ad 0)), (1, .int (type)), (2, .int (version))]) hx hb dX7_runs_3 hl (by decide) rfl (fun ls hl => ?_)
  have loop : ∀ (n i : Nat) (y : Int32), i + n = 32 → isB y (∃ j, j < i ∧ runP σ type version j) → ∀ (H : Heap) (locs : List Loc) (ls : Array Slot), hH G (va_A (mW G ad σ) s.heap.size) s.heap s (mW G ad σ) H locs → lv_has ls 5 [(0, .ref (ad 0)), (1, .int (type)), (2, .int (version)), (3, .int (y)), (4, .int (nI (i)))] → W p l e ({ frames := 1, cells := 0, slots := 0, locals := 21 } : Room) s m args below meth c H locs 0 0 (MQ below (va_Qi (fun r w => isB r (∃ j, j < 32 ∧ runP σ type version j) ∧ w = mW G ad σ) (hB G (va_A (mW G ad σ) s.heap.size)) (va_A (mW G ad σ) s.heap.size)) args s 0 0 (va_A (mW G ad σ) s.heap.size)) (F0 m 5 ls []) := by
    intro n
    induction n with
    | zero =>
      intro i y hi hv H locs ls X hl
      have hi32 : i = 32 := by omega
      refine lv_iload hx hb dX7_runs_5 (lv_at hl 4 rfl) ?_
      refine lv_bipush (v := 32) hx hb dX7_runs_7 (by decide) ?_
      refine lv_icmp_ge (tgt := 59) hx hb dX7_runs_9 (by decide) (fun _ => ?_) (fun c9 => absurd (nI_le (a := 32) (b := i) (by omega) (by omega)) c9)
      refine lv_iload_n hx hb dX7_runs_59 rfl (lv_at hl 3 rfl) ?_
      exact hx_zret S X hr hlk (Nat.le_of_ble_eq_true rfl) (Nat.le_of_ble_eq_true rfl) (isB_nar hv) ⟨hi32 ▸ hv, rfl⟩ dX7_runs_60
    | succ n ih =>
      intro i y hi hv H locs ls X hl
      have hi32 : i < 32 := by omega
      refine lv_iload hx hb dX7_runs_5 (lv_at hl 4 rfl) ?_
      refine lv_bipush (v := 32) hx hb dX7_runs_7 (by decide) ?_
      refine lv_icmp_ge (tgt := 59) hx hb dX7_runs_9 (by decide) (fun c9 => absurd c9 (nI_ge (a := i) (b := 32) (by omega) (by omega))) (fun _ => ?_)
      refine lv_iload_n hx hb dX7_runs_12 rfl (lv_at hl 3 rfl) ?_
      refine lv_if_ne (tgt := 47) hx hb dX7_runs_13 (by decide) (fun c13 => ?_) (fun c13 => ?_)
      · skip
        refine lv_iconst (v := 1) hx hb dX7_runs_47 (by decide) ?_
        refine lv_goto (tgt := 52) hx hb dX7_runs_48 (by decide) ?_
        refine lv_istore_n (lv' := [(3, .int ((1 : Int32))), (0, .ref (ad 0)), (1, .int (type)), (2, .int (version)), (4, .int (nI (i)))]) hx hb dX7_runs_52 rfl hl (by decide) rfl (fun ls hl => ?_)
        refine lv_iinc (v := nI (i + 1)) (lv' := [(4, .int (nI (i + 1))), (3, .int ((1 : Int32))), (0, .ref (ad 0)), (1, .int (type)), (2, .int (version))]) hx hb dX7_runs_53 hl (k := 4) rfl (nI_add (i) 1) (by decide) rfl (fun ls hl => ?_)
        refine lv_goto (tgt := 5) hx hb dX7_runs_56 (by decide) ?_
        exact ih (i + 1) (1 : Int32) (by omega) (ex_stop hv c13) _ _ _ X (lv_sub hl [2, 3, 4, 1, 0] rfl)
      · skip
        refine lv_aload_n hx hb dX7_runs_16 rfl (lv_at hl 0 rfl) ?_
        refine lv_iload hx hb dX7_runs_17 (lv_at hl 4 rfl) ?_
        refine hx_Vi (rest := []) S X (c_X7_isThere l G ad σ (i) hI (by omega)) gX7_runs_X7_isThere rfl (n := 1) (by decide +kernel) rfl ⟨(Nat.le_of_ble_eq_true rfl), (Nat.le_of_ble_eq_true rfl)⟩ (hx_recvL (q0 := 0) (ci := 7) X rfl (mW_0 _ _ _)) hl.1 rfl (Nat.le_of_ble_eq_true rfl) dX7_runs_19 ⟨(Nat.le_of_ble_eq_true rfl), (Nat.le_of_ble_eq_true rfl)⟩ (fun r wd1 H locs hp X => ?_)
        obtain ⟨hr19, rfl⟩ := hp
        by_cases h19 : liv σ (i)
        · skip
          refine hx_ei (hr19.1 h19) ?_
          refine lv_if_eq (tgt := 51) hx hb dX7_runs_22 (by decide) (fun c9 => absurd c9 (by decide)) (fun _ => ?_)
          refine lv_aload_n hx hb dX7_runs_25 rfl (lv_at hl 0 rfl) ?_
          refine hx_getL S X (ci := 7) 0 (mW_0 _ _ _) rfl hin7 3 (by decide) (by decide +kernel) rfl dX7_runs_26 ?_
          refine lv_iload hx hb dX7_runs_29 (lv_at hl 4 rfl) ?_
          refine mx_ld S X 3 (N := 32) (mW_3 _ _ _) (j := i) (by omega) (by decide) (x := σ 3 (i)) (rfl) dX7_runs_31 ?_
          refine lv_iload_n hx hb dX7_runs_32 rfl (lv_at hl 1 rfl) ?_
          refine lv_icmp_ne (tgt := 51) hx hb dX7_runs_33 (by decide) (fun c33 => ?_) (fun c33 => ?_)
          · skip
            refine lv_iconst (v := 0) hx hb dX7_runs_51 (by decide) ?_
            refine lv_istore_n (lv' := [(3, .int ((0 : Int32))), (0, .ref (ad 0)), (1, .int (type)), (2, .int (version)), (4, .int (nI (i)))]) hx hb dX7_runs_52 rfl hl (by decide) rfl (fun ls hl => ?_)
            refine lv_iinc (v := nI (i + 1)) (lv' := [(4, .int (nI (i + 1))), (3, .int ((0 : Int32))), (0, .ref (ad 0)), (1, .int (type)), (2, .int (version))]) hx hb dX7_runs_53 hl (k := 4) rfl (nI_add (i) 1) (by decide) rfl (fun ls hl => ?_)
            refine lv_goto (tgt := 5) hx hb dX7_runs_56 (by decide) ?_
            exact ih (i + 1) (0 : Int32) (by omega) (ex_no hv c13 (fun q => c33 q.2.1)) _ _ _ X (lv_sub hl [2, 3, 4, 1, 0] rfl)
          · skip
            refine lv_aload_n hx hb dX7_runs_36 rfl (lv_at hl 0 rfl) ?_
            refine hx_getL S X (ci := 7) 0 (mW_0 _ _ _) rfl hin7 4 (by decide) (by decide +kernel) rfl dX7_runs_37 ?_
            refine lv_iload hx hb dX7_runs_40 (lv_at hl 4 rfl) ?_
            refine mx_ld S X 4 (N := 32) (mW_4 _ _ _) (j := i) (by omega) (by decide) (x := σ 4 (i)) (rfl) dX7_runs_42 ?_
            refine lv_iload_n hx hb dX7_runs_43 rfl (lv_at hl 2 rfl) ?_
            refine lv_icmp_ne (tgt := 51) hx hb dX7_runs_44 (by decide) (fun c44 => ?_) (fun c44 => ?_)
            · skip
              refine lv_iconst (v := 0) hx hb dX7_runs_51 (by decide) ?_
              refine lv_istore_n (lv' := [(3, .int ((0 : Int32))), (0, .ref (ad 0)), (1, .int (type)), (2, .int (version)), (4, .int (nI (i)))]) hx hb dX7_runs_52 rfl hl (by decide) rfl (fun ls hl => ?_)
              refine lv_iinc (v := nI (i + 1)) (lv' := [(4, .int (nI (i + 1))), (3, .int ((0 : Int32))), (0, .ref (ad 0)), (1, .int (type)), (2, .int (version))]) hx hb dX7_runs_53 hl (k := 4) rfl (nI_add (i) 1) (by decide) rfl (fun ls hl => ?_)
              refine lv_goto (tgt := 5) hx hb dX7_runs_56 (by decide) ?_
              exact ih (i + 1) (0 : Int32) (by omega) (ex_no hv c13 (fun q => c44 q.2.2)) _ _ _ X (lv_sub hl [2, 3, 4, 1, 0] rfl)
            · skip
              refine lv_iconst (v := 1) hx hb dX7_runs_47 (by decide) ?_
              refine lv_goto (tgt := 52) hx hb dX7_runs_48 (by decide) ?_
              refine lv_istore_n (lv' := [(3, .int ((1 : Int32))), (0, .ref (ad 0)), (1, .int (type)), (2, .int (version)), (4, .int (nI (i)))]) hx hb dX7_runs_52 rfl hl (by decide) rfl (fun ls hl => ?_)
              refine lv_iinc (v := nI (i + 1)) (lv' := [(4, .int (nI (i + 1))), (3, .int ((1 : Int32))), (0, .ref (ad 0)), (1, .int (type)), (2, .int (version))]) hx hb dX7_runs_53 hl (k := 4) rfl (nI_add (i) 1) (by decide) rfl (fun ls hl => ?_)
              refine lv_goto (tgt := 5) hx hb dX7_runs_56 (by decide) ?_
              exact ih (i + 1) (1 : Int32) (by omega) (ex_yes ⟨h19, c33, c44⟩) _ _ _ X (lv_sub hl [2, 3, 4, 1, 0] rfl)
        · skip
          refine hx_ei (hr19.2 h19) ?_
          refine lv_if_eq (tgt := 51) hx hb dX7_runs_22 (by decide) (fun _ => ?_) (fun c9 => absurd (by decide) c9)
          refine lv_iconst (v := 0) hx hb dX7_runs_51 (by decide) ?_
          refine lv_istore_n (lv' := [(3, .int ((0 : Int32))), (0, .ref (ad 0)), (1, .int (type)), (2, .int (version)), (4, .int (nI (i)))]) hx hb dX7_runs_52 rfl hl (by decide) rfl (fun ls hl => ?_)
          refine lv_iinc (v := nI (i + 1)) (lv' := [(4, .int (nI (i + 1))), (3, .int ((0 : Int32))), (0, .ref (ad 0)), (1, .int (type)), (2, .int (version))]) hx hb dX7_runs_53 hl (k := 4) rfl (nI_add (i) 1) (by decide) rfl (fun ls hl => ?_)
          refine lv_goto (tgt := 5) hx hb dX7_runs_56 (by decide) ?_
          exact ih (i + 1) (0 : Int32) (by omega) (ex_no hv c13 (fun q => h19 q.1)) _ _ _ X (lv_sub hl [2, 3, 4, 1, 0] rfl)
  exact loop 32 0 0 (by omega) ex_0 _ _ _ X (lv_sub hl [2, 3, 4, 1, 0] rfl)

set_option maxRecDepth 100000 in
set_option maxHeartbeats 4000000 in
theorem c_X7_isHeldBelow (l : Launch) (G : hG) (ad : Nat → Nat) (σ : Sg) (o v : Int32) (hI : Inv σ) : hMi l G yX7_isHeldBelow wsX7_isHeldBelow ({ frames := 1, cells := 0, slots := 0, locals := 21 } : Room) (mW G ad σ) [.ref (ad 0), .int (o), .int (v)] (fun r w => isB r (∃ j, j < 32 ∧ helP σ o v j) ∧ w = mW G ad σ) := by
  refine hMi.of (cc := cX7_isHeldBelow) (maxL := 5) (some .boolean) RX7 rfl (by decide +kernel) rfl (Nat.le_of_ble_eq_true rfl) ?_
  intro p e s m args below meth c S hr hlk X ls hl
  have hx := S.1
  have hb := S.2.1
  have hown := S.2.2.2.1
  have hts := S.2.2.2.2
  have hl : lv_has ls 5 [(0, .ref (ad 0)), (1, .int (o)), (2, .int (v))] := hl
  have hin7 : ∀ w ∈ wsX70, w ∈ wsX7_isHeldBelow := by decide +kernel
  have hC6 : nC σ ≤ 6 := hI.1.2
  have hO24 : nO σ ≤ 24 := hI.2.1.2
  refine lv_iconst (v := 0) hx hb dX7_isHeldBelow_0 (by decide) ?_
  refine lv_istore_n (lv' := [(3, .int ((0 : Int32))), (0, .ref (ad 0)), (1, .int (o)), (2, .int (v))]) hx hb dX7_isHeldBelow_1 rfl hl (by decide) rfl (fun ls hl => ?_)
  refine lv_iconst (v := 0) hx hb dX7_isHeldBelow_2 (by decide) ?_
  refine lv_istore (lv' := [(4, .int ((0 : Int32))), (3, .int ((0 : Int32))), (0, .ref (ad 0)), (1, .int (o)), (2, .int (v))]) hx hb dX7_isHeldBelow_3 hl (by decide) rfl (fun ls hl => ?_)
  have loop : ∀ (n i : Nat) (y : Int32), i + n = 32 → isB y (∃ j, j < i ∧ helP σ o v j) → ∀ (H : Heap) (locs : List Loc) (ls : Array Slot), hH G (va_A (mW G ad σ) s.heap.size) s.heap s (mW G ad σ) H locs → lv_has ls 5 [(0, .ref (ad 0)), (1, .int (o)), (2, .int (v)), (3, .int (y)), (4, .int (nI (i)))] → W p l e ({ frames := 1, cells := 0, slots := 0, locals := 21 } : Room) s m args below meth c H locs 0 0 (MQ below (va_Qi (fun r w => isB r (∃ j, j < 32 ∧ helP σ o v j) ∧ w = mW G ad σ) (hB G (va_A (mW G ad σ) s.heap.size)) (va_A (mW G ad σ) s.heap.size)) args s 0 0 (va_A (mW G ad σ) s.heap.size)) (F0 m 5 ls []) := by
    intro n
    induction n with
    | zero =>
      intro i y hi hv H locs ls X hl
      have hi32 : i = 32 := by omega
      refine lv_iload hx hb dX7_isHeldBelow_5 (lv_at hl 4 rfl) ?_
      refine lv_bipush (v := 32) hx hb dX7_isHeldBelow_7 (by decide) ?_
      refine lv_icmp_ge (tgt := 63) hx hb dX7_isHeldBelow_9 (by decide) (fun _ => ?_) (fun c9 => absurd (nI_le (a := 32) (b := i) (by omega) (by omega)) c9)
      refine lv_iload_n hx hb dX7_isHeldBelow_63 rfl (lv_at hl 3 rfl) ?_
      exact hx_zret S X hr hlk (Nat.le_of_ble_eq_true rfl) (Nat.le_of_ble_eq_true rfl) (isB_nar hv) ⟨hi32 ▸ hv, rfl⟩ dX7_isHeldBelow_64
    | succ n ih =>
      intro i y hi hv H locs ls X hl
      have hi32 : i < 32 := by omega
      refine lv_iload hx hb dX7_isHeldBelow_5 (lv_at hl 4 rfl) ?_
      refine lv_bipush (v := 32) hx hb dX7_isHeldBelow_7 (by decide) ?_
      refine lv_icmp_ge (tgt := 63) hx hb dX7_isHeldBelow_9 (by decide) (fun c9 => absurd c9 (nI_ge (a := i) (b := 32) (by omega) (by omega))) (fun _ => ?_)
      refine lv_iload_n hx hb dX7_isHeldBelow_12 rfl (lv_at hl 3 rfl) ?_
      refine lv_if_ne (tgt := 51) hx hb dX7_isHeldBelow_13 (by decide) (fun c13 => ?_) (fun c13 => ?_)
      · skip
        refine lv_iconst (v := 1) hx hb dX7_isHeldBelow_51 (by decide) ?_
        refine lv_goto (tgt := 56) hx hb dX7_isHeldBelow_52 (by decide) ?_
        refine lv_istore_n (lv' := [(3, .int ((1 : Int32))), (0, .ref (ad 0)), (1, .int (o)), (2, .int (v)), (4, .int (nI (i)))]) hx hb dX7_isHeldBelow_56 rfl hl (by decide) rfl (fun ls hl => ?_)
        refine lv_iinc (v := nI (i + 1)) (lv' := [(4, .int (nI (i + 1))), (3, .int ((1 : Int32))), (0, .ref (ad 0)), (1, .int (o)), (2, .int (v))]) hx hb dX7_isHeldBelow_57 hl (k := 4) rfl (nI_add (i) 1) (by decide) rfl (fun ls hl => ?_)
        refine lv_goto (tgt := 5) hx hb dX7_isHeldBelow_60 (by decide) ?_
        exact ih (i + 1) (1 : Int32) (by omega) (ex_stop hv c13) _ _ _ X (lv_sub hl [2, 3, 4, 1, 0] rfl)
      · skip
        refine lv_aload_n hx hb dX7_isHeldBelow_16 rfl (lv_at hl 0 rfl) ?_
        refine lv_iload hx hb dX7_isHeldBelow_17 (lv_at hl 4 rfl) ?_
        refine hx_Vi (rest := []) S X (c_X7_isThere l G ad σ (i) hI (by omega)) gX7_isHeldBelow_X7_isThere rfl (n := 1) (by decide +kernel) rfl ⟨(Nat.le_of_ble_eq_true rfl), (Nat.le_of_ble_eq_true rfl)⟩ (hx_recvL (q0 := 0) (ci := 7) X rfl (mW_0 _ _ _)) hl.1 rfl (Nat.le_of_ble_eq_true rfl) dX7_isHeldBelow_19 ⟨(Nat.le_of_ble_eq_true rfl), (Nat.le_of_ble_eq_true rfl)⟩ (fun r wd1 H locs hp X => ?_)
        obtain ⟨hr19, rfl⟩ := hp
        by_cases h19 : liv σ (i)
        · skip
          refine hx_ei (hr19.1 h19) ?_
          refine lv_if_eq (tgt := 55) hx hb dX7_isHeldBelow_22 (by decide) (fun c9 => absurd c9 (by decide)) (fun _ => ?_)
          refine lv_aload_n hx hb dX7_isHeldBelow_25 rfl (lv_at hl 0 rfl) ?_
          refine hx_getL S X (ci := 7) 0 (mW_0 _ _ _) rfl hin7 5 (by decide) (by decide +kernel) rfl dX7_isHeldBelow_26 ?_
          refine lv_iload hx hb dX7_isHeldBelow_29 (lv_at hl 4 rfl) ?_
          refine mx_ld S X 5 (N := 32) (mW_5 _ _ _) (j := i) (by omega) (by decide) (x := σ 5 (i)) (rfl) dX7_isHeldBelow_31 ?_
          refine lv_iload_n hx hb dX7_isHeldBelow_32 rfl (lv_at hl 1 rfl) ?_
          refine lv_ishr hx hb dX7_isHeldBelow_33 ?_
          refine lv_iconst (v := 1) hx hb dX7_isHeldBelow_34 (by decide) ?_
          refine lv_iand hx hb dX7_isHeldBelow_35 ?_
          refine lv_iconst (v := 1) hx hb dX7_isHeldBelow_36 (by decide) ?_
          refine lv_icmp_ne (tgt := 55) hx hb dX7_isHeldBelow_37 (by decide) (fun c37 => ?_) (fun c37 => ?_)
          · skip
            refine lv_iconst (v := 0) hx hb dX7_isHeldBelow_55 (by decide) ?_
            refine lv_istore_n (lv' := [(3, .int ((0 : Int32))), (0, .ref (ad 0)), (1, .int (o)), (2, .int (v)), (4, .int (nI (i)))]) hx hb dX7_isHeldBelow_56 rfl hl (by decide) rfl (fun ls hl => ?_)
            refine lv_iinc (v := nI (i + 1)) (lv' := [(4, .int (nI (i + 1))), (3, .int ((0 : Int32))), (0, .ref (ad 0)), (1, .int (o)), (2, .int (v))]) hx hb dX7_isHeldBelow_57 hl (k := 4) rfl (nI_add (i) 1) (by decide) rfl (fun ls hl => ?_)
            refine lv_goto (tgt := 5) hx hb dX7_isHeldBelow_60 (by decide) ?_
            exact ih (i + 1) (0 : Int32) (by omega) (ex_no hv c13 (fun q => c37 q.2.1)) _ _ _ X (lv_sub hl [2, 3, 4, 1, 0] rfl)
          · skip
            refine lv_aload_n hx hb dX7_isHeldBelow_40 rfl (lv_at hl 0 rfl) ?_
            refine hx_getL S X (ci := 7) 0 (mW_0 _ _ _) rfl hin7 4 (by decide) (by decide +kernel) rfl dX7_isHeldBelow_41 ?_
            refine lv_iload hx hb dX7_isHeldBelow_44 (lv_at hl 4 rfl) ?_
            refine mx_ld S X 4 (N := 32) (mW_4 _ _ _) (j := i) (by omega) (by decide) (x := σ 4 (i)) (rfl) dX7_isHeldBelow_46 ?_
            refine lv_iload_n hx hb dX7_isHeldBelow_47 rfl (lv_at hl 2 rfl) ?_
            refine lv_icmp_ge (tgt := 55) hx hb dX7_isHeldBelow_48 (by decide) (fun c48 => ?_) (fun c48 => ?_)
            · skip
              refine lv_iconst (v := 0) hx hb dX7_isHeldBelow_55 (by decide) ?_
              refine lv_istore_n (lv' := [(3, .int ((0 : Int32))), (0, .ref (ad 0)), (1, .int (o)), (2, .int (v)), (4, .int (nI (i)))]) hx hb dX7_isHeldBelow_56 rfl hl (by decide) rfl (fun ls hl => ?_)
              refine lv_iinc (v := nI (i + 1)) (lv' := [(4, .int (nI (i + 1))), (3, .int ((0 : Int32))), (0, .ref (ad 0)), (1, .int (o)), (2, .int (v))]) hx hb dX7_isHeldBelow_57 hl (k := 4) rfl (nI_add (i) 1) (by decide) rfl (fun ls hl => ?_)
              refine lv_goto (tgt := 5) hx hb dX7_isHeldBelow_60 (by decide) ?_
              exact ih (i + 1) (0 : Int32) (by omega) (ex_no hv c13 (fun q => absurd q.2.2 (Int32.not_lt.mpr c48))) _ _ _ X (lv_sub hl [2, 3, 4, 1, 0] rfl)
            · skip
              refine lv_iconst (v := 1) hx hb dX7_isHeldBelow_51 (by decide) ?_
              refine lv_goto (tgt := 56) hx hb dX7_isHeldBelow_52 (by decide) ?_
              refine lv_istore_n (lv' := [(3, .int ((1 : Int32))), (0, .ref (ad 0)), (1, .int (o)), (2, .int (v)), (4, .int (nI (i)))]) hx hb dX7_isHeldBelow_56 rfl hl (by decide) rfl (fun ls hl => ?_)
              refine lv_iinc (v := nI (i + 1)) (lv' := [(4, .int (nI (i + 1))), (3, .int ((1 : Int32))), (0, .ref (ad 0)), (1, .int (o)), (2, .int (v))]) hx hb dX7_isHeldBelow_57 hl (k := 4) rfl (nI_add (i) 1) (by decide) rfl (fun ls hl => ?_)
              refine lv_goto (tgt := 5) hx hb dX7_isHeldBelow_60 (by decide) ?_
              exact ih (i + 1) (1 : Int32) (by omega) (ex_yes ⟨h19, c37, Int32.not_le.mp c48⟩) _ _ _ X (lv_sub hl [2, 3, 4, 1, 0] rfl)
        · skip
          refine hx_ei (hr19.2 h19) ?_
          refine lv_if_eq (tgt := 55) hx hb dX7_isHeldBelow_22 (by decide) (fun _ => ?_) (fun c9 => absurd (by decide) c9)
          refine lv_iconst (v := 0) hx hb dX7_isHeldBelow_55 (by decide) ?_
          refine lv_istore_n (lv' := [(3, .int ((0 : Int32))), (0, .ref (ad 0)), (1, .int (o)), (2, .int (v)), (4, .int (nI (i)))]) hx hb dX7_isHeldBelow_56 rfl hl (by decide) rfl (fun ls hl => ?_)
          refine lv_iinc (v := nI (i + 1)) (lv' := [(4, .int (nI (i + 1))), (3, .int ((0 : Int32))), (0, .ref (ad 0)), (1, .int (o)), (2, .int (v))]) hx hb dX7_isHeldBelow_57 hl (k := 4) rfl (nI_add (i) 1) (by decide) rfl (fun ls hl => ?_)
          refine lv_goto (tgt := 5) hx hb dX7_isHeldBelow_60 (by decide) ?_
          exact ih (i + 1) (0 : Int32) (by omega) (ex_no hv c13 (fun q => h19 q.1)) _ _ _ X (lv_sub hl [2, 3, 4, 1, 0] rfl)
  exact loop 32 0 0 (by omega) ex_0 _ _ _ X (lv_sub hl [2, 3, 4, 1, 0] rfl)

set_option maxRecDepth 100000 in
set_option maxHeartbeats 4000000 in
theorem c_X7_oldFrames (l : Launch) (G : hG) (ad : Nat → Nat) (σ : Sg) (type : Int32) (hI : Inv σ) : hMi l G yX7_oldFrames wsX7_oldFrames ({ frames := 3, cells := 0, slots := 0, locals := 64 } : Room) (mW G ad σ) [.ref (ad 0), .int (type)] (fun r w => r = (M_oldFrames σ type).1 ∧ w = mW G ad (M_oldFrames σ type).2) := by
  refine hMi.of (cc := cX7_oldFrames) (maxL := 4) (some .int) RX7 rfl (by decide +kernel) rfl (Nat.le_of_ble_eq_true rfl) ?_
  intro p e s m args below meth c S hr hlk X ls hl
  have hx := S.1
  have hb := S.2.1
  have hown := S.2.2.2.1
  have hts := S.2.2.2.2
  have hl : lv_has ls 4 [(0, .ref (ad 0)), (1, .int (type))] := hl
  have hin7 : ∀ w ∈ wsX70, w ∈ wsX7_oldFrames := by decide +kernel
  have hC6 : nC σ ≤ 6 := hI.1.2
  have hO24 : nO σ ≤ 24 := hI.2.1.2
  refine lv_aload_n hx hb dX7_oldFrames_0 rfl (lv_at hl 0 rfl) ?_
  refine lv_iload_n hx hb dX7_oldFrames_1 rfl (lv_at hl 1 rfl) ?_
  refine hx_Vi (rest := []) S X (c_X7_isClass l G ad σ (type) hI) gX7_oldFrames_X7_isClass rfl (n := 1) (by decide +kernel) rfl ⟨(Nat.le_of_ble_eq_true rfl), (Nat.le_of_ble_eq_true rfl)⟩ (hx_recvL (q0 := 0) (ci := 7) X rfl (mW_0 _ _ _)) hl.1 rfl (Nat.le_of_ble_eq_true rfl) dX7_oldFrames_2 ⟨(Nat.le_of_ble_eq_true rfl), (Nat.le_of_ble_eq_true rfl)⟩ (fun r wd1 H locs hp X => ?_)
  obtain ⟨hr2, rfl⟩ := hp
  by_cases h2 : isC σ (type)
  · skip
    refine hx_ei (hr2.1 h2) ?_
    have h2' := h2
    obtain ⟨t, ht, rfl⟩ := h2
    have hct : (nI t).toNatClampNeg = t := nI_clamp (by omega)
    obtain ⟨⟨hk0, hk1, hk2⟩, hks, hkv⟩ := hI.2.2.1 t ht
    refine lv_if_ne (tgt := 11) hx hb dX7_oldFrames_5 (by decide) (fun _ => ?_) (fun c9 => absurd c9 (by decide))
    refine lv_iconst (v := 0) hx hb dX7_oldFrames_11 (by decide) ?_
    refine lv_istore_n (lv' := [(2, .int ((0 : Int32))), (0, .ref (ad 0)), (1, .int (nI (t)))]) hx hb dX7_oldFrames_12 rfl hl (by decide) rfl (fun ls hl => ?_)
    refine lv_iconst (v := 0) hx hb dX7_oldFrames_13 (by decide) ?_
    refine lv_istore_n (lv' := [(3, .int ((0 : Int32))), (2, .int ((0 : Int32))), (0, .ref (ad 0)), (1, .int (nI (t)))]) hx hb dX7_oldFrames_14 rfl hl (by decide) rfl (fun ls hl => ?_)
    have loop : ∀ (n i : Nat) (y : Nat), i + n = 32 → y = cnp (oldP σ (nI t)) i → ∀ (H : Heap) (locs : List Loc) (ls : Array Slot), hH G (va_A (mW G ad σ) s.heap.size) s.heap s (mW G ad σ) H locs → lv_has ls 4 [(0, .ref (ad 0)), (1, .int (nI (t))), (2, .int (nI (y))), (3, .int (nI (i)))] → W p l e ({ frames := 3, cells := 0, slots := 0, locals := 64 } : Room) s m args below meth c H locs 0 0 (MQ below (va_Qi (fun r w => r = (M_oldFrames σ (nI t)).1 ∧ w = mW G ad (M_oldFrames σ (nI t)).2) (hB G (va_A (mW G ad σ) s.heap.size)) (va_A (mW G ad σ) s.heap.size)) args s 0 0 (va_A (mW G ad σ) s.heap.size)) (F0 m 15 ls []) := by
      intro n
      induction n with
      | zero =>
        intro i y hi hv H locs ls X hl
        have hi32 : i = 32 := by omega
        refine lv_iload_n hx hb dX7_oldFrames_15 rfl (lv_at hl 3 rfl) ?_
        refine lv_bipush (v := 32) hx hb dX7_oldFrames_16 (by decide) ?_
        refine lv_icmp_ge (tgt := 67) hx hb dX7_oldFrames_18 (by decide) (fun _ => ?_) (fun c9 => absurd (nI_le (a := 32) (b := i) (by omega) (by omega)) c9)
        refine lv_iload_n hx hb dX7_oldFrames_67 rfl (lv_at hl 2 rfl) ?_
        exact hx_iret S X hr hlk (Nat.le_of_ble_eq_true rfl) (Nat.le_of_ble_eq_true rfl) (by rw [hv, hi32]; simp [M_oldFrames, wif_t, wif_f, h2']) dX7_oldFrames_68
      | succ n ih =>
        intro i y hi hv H locs ls X hl
        have hi32 : i < 32 := by omega
        refine lv_iload_n hx hb dX7_oldFrames_15 rfl (lv_at hl 3 rfl) ?_
        refine lv_bipush (v := 32) hx hb dX7_oldFrames_16 (by decide) ?_
        refine lv_icmp_ge (tgt := 67) hx hb dX7_oldFrames_18 (by decide) (fun c9 => absurd c9 (nI_ge (a := i) (b := 32) (by omega) (by omega))) (fun _ => ?_)
        refine lv_iload_n hx hb dX7_oldFrames_21 rfl (lv_at hl 2 rfl) ?_
        refine lv_aload_n hx hb dX7_oldFrames_22 rfl (lv_at hl 0 rfl) ?_
        refine lv_iload_n hx hb dX7_oldFrames_23 rfl (lv_at hl 3 rfl) ?_
        refine hx_Vi (rest := [.int (nI (y))]) S X (c_X7_isThere l G ad σ (i) hI (by omega)) gX7_oldFrames_X7_isThere rfl (n := 1) (by decide +kernel) rfl ⟨(Nat.le_of_ble_eq_true rfl), (Nat.le_of_ble_eq_true rfl)⟩ (hx_recvL (q0 := 0) (ci := 7) X rfl (mW_0 _ _ _)) hl.1 rfl (Nat.le_of_ble_eq_true rfl) dX7_oldFrames_24 ⟨(Nat.le_of_ble_eq_true rfl), (Nat.le_of_ble_eq_true rfl)⟩ (fun r wd1 H locs hp X => ?_)
        obtain ⟨hr24, rfl⟩ := hp
        by_cases h24 : liv σ (i)
        · skip
          refine hx_ei (hr24.1 h24) ?_
          refine lv_if_eq (tgt := 58) hx hb dX7_oldFrames_27 (by decide) (fun c9 => absurd c9 (by decide)) (fun _ => ?_)
          refine lv_aload_n hx hb dX7_oldFrames_30 rfl (lv_at hl 0 rfl) ?_
          refine hx_getL S X (ci := 7) 0 (mW_0 _ _ _) rfl hin7 3 (by decide) (by decide +kernel) rfl dX7_oldFrames_31 ?_
          refine lv_iload_n hx hb dX7_oldFrames_34 rfl (lv_at hl 3 rfl) ?_
          refine mx_ld S X 3 (N := 32) (mW_3 _ _ _) (j := i) (by omega) (by decide) (x := σ 3 (i)) (rfl) dX7_oldFrames_35 ?_
          refine lv_iload_n hx hb dX7_oldFrames_36 rfl (lv_at hl 1 rfl) ?_
          refine lv_icmp_ne (tgt := 58) hx hb dX7_oldFrames_37 (by decide) (fun c37 => ?_) (fun c37 => ?_)
          · skip
            refine lv_iconst (v := 0) hx hb dX7_oldFrames_58 (by decide) ?_
            refine lv_iadd hx hb dX7_oldFrames_59 ?_
            refine hx_ei (show _ = nI (y + 0) from nI_add (y) (0)) ?_
            refine lv_istore_n (lv' := [(2, .int (nI (y + 0))), (0, .ref (ad 0)), (1, .int (nI (t))), (3, .int (nI (i)))]) hx hb dX7_oldFrames_60 rfl hl (by decide) rfl (fun ls hl => ?_)
            refine lv_iinc (v := nI (i + 1)) (lv' := [(3, .int (nI (i + 1))), (2, .int (nI (y + 0))), (0, .ref (ad 0)), (1, .int (nI (t)))]) hx hb dX7_oldFrames_61 hl (k := 3) rfl (nI_add (i) 1) (by decide) rfl (fun ls hl => ?_)
            refine lv_goto (tgt := 15) hx hb dX7_oldFrames_64 (by decide) ?_
            exact ih (i + 1) (y + 0) (by omega) (by rw [hv, Nat.add_zero, cnp_f (fun q => c37 q.2.1)]) _ _ _ X (lv_sub hl [2, 3, 1, 0] rfl)
          · skip
            refine lv_aload_n hx hb dX7_oldFrames_40 rfl (lv_at hl 0 rfl) ?_
            refine hx_getL S X (ci := 7) 0 (mW_0 _ _ _) rfl hin7 4 (by decide) (by decide +kernel) rfl dX7_oldFrames_41 ?_
            refine lv_iload_n hx hb dX7_oldFrames_44 rfl (lv_at hl 3 rfl) ?_
            refine mx_ld S X 4 (N := 32) (mW_4 _ _ _) (j := i) (by omega) (by decide) (x := σ 4 (i)) (rfl) dX7_oldFrames_45 ?_
            refine lv_aload_n hx hb dX7_oldFrames_46 rfl (lv_at hl 0 rfl) ?_
            refine lv_iload_n hx hb dX7_oldFrames_47 rfl (lv_at hl 1 rfl) ?_
            refine hx_Vi (rest := [.int (σ 4 (i)), .int (nI (y))]) S X (c_X7_current l G ad σ (t) (by omega)) gX7_oldFrames_X7_current rfl (n := 1) (by decide +kernel) rfl ⟨(Nat.le_of_ble_eq_true rfl), (Nat.le_of_ble_eq_true rfl)⟩ (hx_recvL (q0 := 0) (ci := 7) X rfl (mW_0 _ _ _)) hl.1 rfl (Nat.le_of_ble_eq_true rfl) dX7_oldFrames_48 ⟨(Nat.le_of_ble_eq_true rfl), (Nat.le_of_ble_eq_true rfl)⟩ (fun r wd1 H locs hp X => ?_)
            obtain ⟨rfl, rfl⟩ := hp
            refine hx_ei (show _ = nI (cnt σ t) - 1 from by rw [show σ 1 (162 * t + 0) = nI (cnt σ t) from hk0]) ?_
            refine lv_icmp_eq (tgt := 58) hx hb dX7_oldFrames_51 (by decide) (fun c51 => ?_) (fun c51 => ?_)
            · skip
              refine lv_iconst (v := 0) hx hb dX7_oldFrames_58 (by decide) ?_
              refine lv_iadd hx hb dX7_oldFrames_59 ?_
              refine hx_ei (show _ = nI (y + 0) from nI_add (y) (0)) ?_
              refine lv_istore_n (lv' := [(2, .int (nI (y + 0))), (0, .ref (ad 0)), (1, .int (nI (t))), (3, .int (nI (i)))]) hx hb dX7_oldFrames_60 rfl hl (by decide) rfl (fun ls hl => ?_)
              refine lv_iinc (v := nI (i + 1)) (lv' := [(3, .int (nI (i + 1))), (2, .int (nI (y + 0))), (0, .ref (ad 0)), (1, .int (nI (t)))]) hx hb dX7_oldFrames_61 hl (k := 3) rfl (nI_add (i) 1) (by decide) rfl (fun ls hl => ?_)
              refine lv_goto (tgt := 15) hx hb dX7_oldFrames_64 (by decide) ?_
              exact ih (i + 1) (y + 0) (by omega) (by rw [hv, Nat.add_zero, cnp_f (fun q => q.2.2 (by rw [show cN (nI t) = t from hct]; exact c51))]) _ _ _ X (lv_sub hl [2, 3, 1, 0] rfl)
            · skip
              refine lv_iconst (v := 1) hx hb dX7_oldFrames_54 (by decide) ?_
              refine lv_goto (tgt := 59) hx hb dX7_oldFrames_55 (by decide) ?_
              refine lv_iadd hx hb dX7_oldFrames_59 ?_
              refine hx_ei (show _ = nI (y + 1) from nI_add (y) (1)) ?_
              refine lv_istore_n (lv' := [(2, .int (nI (y + 1))), (0, .ref (ad 0)), (1, .int (nI (t))), (3, .int (nI (i)))]) hx hb dX7_oldFrames_60 rfl hl (by decide) rfl (fun ls hl => ?_)
              refine lv_iinc (v := nI (i + 1)) (lv' := [(3, .int (nI (i + 1))), (2, .int (nI (y + 1))), (0, .ref (ad 0)), (1, .int (nI (t)))]) hx hb dX7_oldFrames_61 hl (k := 3) rfl (nI_add (i) 1) (by decide) rfl (fun ls hl => ?_)
              refine lv_goto (tgt := 15) hx hb dX7_oldFrames_64 (by decide) ?_
              exact ih (i + 1) (y + 1) (by omega) (by rw [hv, cnp_t ⟨h24, c37, by rw [show cN (nI t) = t from hct]; exact c51⟩]) _ _ _ X (lv_sub hl [2, 3, 1, 0] rfl)
        · skip
          refine hx_ei (hr24.2 h24) ?_
          refine lv_if_eq (tgt := 58) hx hb dX7_oldFrames_27 (by decide) (fun _ => ?_) (fun c9 => absurd (by decide) c9)
          refine lv_iconst (v := 0) hx hb dX7_oldFrames_58 (by decide) ?_
          refine lv_iadd hx hb dX7_oldFrames_59 ?_
          refine hx_ei (show _ = nI (y + 0) from nI_add (y) (0)) ?_
          refine lv_istore_n (lv' := [(2, .int (nI (y + 0))), (0, .ref (ad 0)), (1, .int (nI (t))), (3, .int (nI (i)))]) hx hb dX7_oldFrames_60 rfl hl (by decide) rfl (fun ls hl => ?_)
          refine lv_iinc (v := nI (i + 1)) (lv' := [(3, .int (nI (i + 1))), (2, .int (nI (y + 0))), (0, .ref (ad 0)), (1, .int (nI (t)))]) hx hb dX7_oldFrames_61 hl (k := 3) rfl (nI_add (i) 1) (by decide) rfl (fun ls hl => ?_)
          refine lv_goto (tgt := 15) hx hb dX7_oldFrames_64 (by decide) ?_
          exact ih (i + 1) (y + 0) (by omega) (by rw [hv, Nat.add_zero, cnp_f (fun q => h24 q.1)]) _ _ _ X (lv_sub hl [2, 3, 1, 0] rfl)
    exact loop 32 0 0 (by omega) rfl _ _ _ X (lv_sub hl [2, 3, 1, 0] rfl)
  · skip
    refine hx_ei (hr2.2 h2) ?_
    refine lv_if_ne (tgt := 11) hx hb dX7_oldFrames_5 (by decide) (fun c9 => absurd (by decide) c9) (fun _ => ?_)
    refine lv_ldc (v := -2000001) hx hb hown (hts (Cond.constant RX7 66 (-2000001)) (by decide +kernel)) dX7_oldFrames_8 ?_
    exact hx_iret S X hr hlk (Nat.le_of_ble_eq_true rfl) (Nat.le_of_ble_eq_true rfl) (by simp [M_oldFrames, wif_t, wif_f, h2]) dX7_oldFrames_10

set_option maxRecDepth 100000 in
set_option maxHeartbeats 4000000 in
theorem c_X7_delete (l : Launch) (G : hG) (ad : Nat → Nat) (σ : Sg) (o : Nat) (ho : o < 24) : hMv l G yX7_delete wsX7_delete ({ frames := 0, cells := 0, slots := 0, locals := 0 } : Room) (mW G ad σ) [.ref (ad 0), .int (nI (o))] (fun w => w = mW G ad (M_delete σ o)) := by
  refine hMv.of (cc := cX7_delete) (maxL := 3) none RX7 rfl (by decide +kernel) rfl (Nat.le_of_ble_eq_true rfl) ?_
  intro p e s m args below meth c S hr hlk hin X ls hl
  have hx := S.1
  have hb := S.2.1
  have hown := S.2.2.2.1
  have hts := S.2.2.2.2
  have hl : lv_has ls 3 [(0, .ref (ad 0)), (1, .int (nI (o)))] := hl
  have hin7 : ∀ w ∈ wsX70, w ∈ wsX7_delete := by decide +kernel
  refine lv_aload_n hx hb dX7_delete_0 rfl (lv_at hl 0 rfl) ?_
  refine hx_getL S X (ci := 7) 0 (mW_0 _ _ _) rfl hin7 7 (by decide) (by decide +kernel) rfl dX7_delete_1 ?_
  refine lv_iload_n hx hb dX7_delete_4 rfl (lv_at hl 1 rfl) ?_
  refine lv_iconst (v := 0) hx hb dX7_delete_5 (by decide) ?_
  refine mx_zst S X (j := o) (by omega) (x := (0 : Int32)) (by decide) dX7_delete_6 (fun H locs X => ?_)
  refine lv_iconst (v := 0) hx hb dX7_delete_7 (by decide) ?_
  refine lv_istore_n (lv' := [(2, .int ((0 : Int32))), (0, .ref (ad 0)), (1, .int (nI (o)))]) hx hb dX7_delete_8 rfl hl (by decide) rfl (fun ls hl => ?_)
  have loop : ∀ (n i : Nat) , i + n = 32 → True → ∀ (H : Heap) (locs : List Loc) (ls : Array Slot), hH G (va_A (mW G ad σ) s.heap.size) s.heap s (mW G ad (dlL σ o i)) H locs → lv_has ls 3 [(0, .ref (ad 0)), (1, .int (nI (o))), (2, .int (nI (i)))] → W p l e ({ frames := 0, cells := 0, slots := 0, locals := 0 } : Room) s m args below meth c H locs 0 0 (MQ below (va_Qv (fun w => w = mW G ad (M_delete σ o)) (hB G (va_A (mW G ad σ) s.heap.size)) (va_A (mW G ad σ) s.heap.size)) args s 0 0 (va_A (mW G ad σ) s.heap.size)) (F0 m 9 ls []) := by
    intro n
    induction n with
    | zero =>
      intro i  hi hv H locs ls X hl
      have hi32 : i = 32 := by omega
      refine lv_iload_n hx hb dX7_delete_9 rfl (lv_at hl 2 rfl) ?_
      refine lv_bipush (v := 32) hx hb dX7_delete_10 (by decide) ?_
      refine lv_icmp_ge (tgt := 35) hx hb dX7_delete_12 (by decide) (fun _ => ?_) (fun c9 => absurd (nI_le (a := 32) (b := i) (by omega) (by omega)) c9)
      exact hx_vret S X hr hlk (Nat.le_of_ble_eq_true rfl) (Nat.le_of_ble_eq_true rfl) (by rw [hi32]; rfl) dX7_delete_35
    | succ n ih =>
      intro i  hi hv H locs ls X hl
      have hi32 : i < 32 := by omega
      refine lv_iload_n hx hb dX7_delete_9 rfl (lv_at hl 2 rfl) ?_
      refine lv_bipush (v := 32) hx hb dX7_delete_10 (by decide) ?_
      refine lv_icmp_ge (tgt := 35) hx hb dX7_delete_12 (by decide) (fun c9 => absurd c9 (nI_ge (a := i) (b := 32) (by omega) (by omega))) (fun _ => ?_)
      refine lv_aload_n hx hb dX7_delete_15 rfl (lv_at hl 0 rfl) ?_
      refine hx_getL S X (ci := 7) 0 (mW_0 _ _ _) rfl hin7 5 (by decide) (by decide +kernel) rfl dX7_delete_16 ?_
      refine lv_iload_n hx hb dX7_delete_19 rfl (lv_at hl 2 rfl) ?_
      refine lv_dup2_11 hx hb dX7_delete_20 rfl rfl ?_
      refine mx_ld S X 5 (N := 32) (mW_5 _ _ _) (j := i) (by omega) (by decide) (x := (dlL σ o i) 5 (i)) (rfl) dX7_delete_21 ?_
      refine lv_iconst (v := 1) hx hb dX7_delete_22 (by decide) ?_
      refine lv_iload_n hx hb dX7_delete_23 rfl (lv_at hl 1 rfl) ?_
      refine lv_ishl hx hb dX7_delete_24 ?_
      refine lv_iconst (v := -1) hx hb dX7_delete_25 (by decide) ?_
      refine lv_ixor hx hb dX7_delete_26 ?_
      refine lv_iand hx hb dX7_delete_27 ?_
      refine mx_st S X 5 (N := 32) (mW_5 _ _ _) (j := i) (by omega) (by decide) (x := ((dlL σ o i) 5 (i)) &&& ((((1 : Int32)) <<< ((nI (o)) &&& 31)) ^^^ ((-1 : Int32)))) dX7_delete_28 (mW_s5 _ _ _ _ _) (fun H locs X => ?_)
      refine lv_iinc (v := nI (i + 1)) (lv' := [(2, .int (nI (i + 1))), (0, .ref (ad 0)), (1, .int (nI (o)))]) hx hb dX7_delete_29 hl (k := 2) rfl (nI_add (i) 1) (by decide) rfl (fun ls hl => ?_)
      refine lv_goto (tgt := 9) hx hb dX7_delete_32 (by decide) ?_
      exact ih (i + 1) (by omega) trivial _ _ _ X (lv_sub hl [1, 2, 0] rfl)
  exact loop 32 0 (by omega) trivial _ _ _ X (lv_sub hl [1, 2, 0] rfl)

set_option maxRecDepth 100000 in
set_option maxHeartbeats 4000000 in
theorem c_X7_rollback (l : Launch) (G : hG) (ad : Nat → Nat) (σ : Sg) (type : Int32) (hI : Inv σ) : hMi l G yX7_rollback wsX7_rollback ({ frames := 3, cells := 0, slots := 0, locals := 64 } : Room) (mW G ad σ) [.ref (ad 0), .int (type)] (fun r w => r = (M_rollback σ type).1 ∧ w = mW G ad (M_rollback σ type).2) := by
  refine hMi.of (cc := cX7_rollback) (maxL := 4) (some .int) RX7 rfl (by decide +kernel) rfl (Nat.le_of_ble_eq_true rfl) ?_
  intro p e s m args below meth c S hr hlk X ls hl
  have hx := S.1
  have hb := S.2.1
  have hown := S.2.2.2.1
  have hts := S.2.2.2.2
  have hl : lv_has ls 4 [(0, .ref (ad 0)), (1, .int (type))] := hl
  have hin7 : ∀ w ∈ wsX70, w ∈ wsX7_rollback := by decide +kernel
  have hC6 : nC σ ≤ 6 := hI.1.2
  have hO24 : nO σ ≤ 24 := hI.2.1.2
  refine lv_aload_n hx hb dX7_rollback_0 rfl (lv_at hl 0 rfl) ?_
  refine lv_iload_n hx hb dX7_rollback_1 rfl (lv_at hl 1 rfl) ?_
  refine hx_Vi (rest := []) S X (c_X7_isClass l G ad σ (type) hI) gX7_rollback_X7_isClass rfl (n := 1) (by decide +kernel) rfl ⟨(Nat.le_of_ble_eq_true rfl), (Nat.le_of_ble_eq_true rfl)⟩ (hx_recvL (q0 := 0) (ci := 7) X rfl (mW_0 _ _ _)) hl.1 rfl (Nat.le_of_ble_eq_true rfl) dX7_rollback_2 ⟨(Nat.le_of_ble_eq_true rfl), (Nat.le_of_ble_eq_true rfl)⟩ (fun r wd1 H locs hp X => ?_)
  obtain ⟨hr2, rfl⟩ := hp
  by_cases h2 : isC σ (type)
  · skip
    refine hx_ei (hr2.1 h2) ?_
    have h2' := h2
    obtain ⟨t, ht, rfl⟩ := h2
    have hct : (nI t).toNatClampNeg = t := nI_clamp (by omega)
    obtain ⟨⟨hk0, hk1, hk2⟩, hks, hkv⟩ := hI.2.2.1 t ht
    refine lv_if_ne (tgt := 11) hx hb dX7_rollback_5 (by decide) (fun _ => ?_) (fun c9 => absurd c9 (by decide))
    refine lv_aload_n hx hb dX7_rollback_11 rfl (lv_at hl 0 rfl) ?_
    refine lv_iload_n hx hb dX7_rollback_12 rfl (lv_at hl 1 rfl) ?_
    refine hx_Vi (rest := []) S X (c_X7_current l G ad σ (t) (by omega)) gX7_rollback_X7_current rfl (n := 1) (by decide +kernel) rfl ⟨(Nat.le_of_ble_eq_true rfl), (Nat.le_of_ble_eq_true rfl)⟩ (hx_recvL (q0 := 0) (ci := 7) X rfl (mW_0 _ _ _)) hl.1 rfl (Nat.le_of_ble_eq_true rfl) dX7_rollback_13 ⟨(Nat.le_of_ble_eq_true rfl), (Nat.le_of_ble_eq_true rfl)⟩ (fun r wd1 H locs hp X => ?_)
    obtain ⟨rfl, rfl⟩ := hp
    refine hx_ei (show _ = nI (cnt σ t) - 1 from by rw [show σ 1 (162 * t + 0) = nI (cnt σ t) from hk0]) ?_
    refine hx_ei (show _ = nI (cnt σ t - 1) from pk_sub (a := cnt σ t) (b := 1) hk1) ?_
    refine lv_istore_n (lv' := [(2, .int (nI (cnt σ t - 1))), (0, .ref (ad 0)), (1, .int (nI (t)))]) hx hb dX7_rollback_16 rfl hl (by decide) rfl (fun ls hl => ?_)
    refine lv_iload_n hx hb dX7_rollback_17 rfl (lv_at hl 0 rfl) ?_
    refine lv_if_ne (tgt := 24) hx hb dX7_rollback_18 (by decide) (fun c18 => ?_) (fun c18 => ?_)
    · skip
      have c18 := (not_congr (nI_eq (a := cnt σ t - 1) (b := 0) (by omega) (by omega))).mp c18
      refine lv_aload_n hx hb dX7_rollback_24 rfl (lv_at hl 1 rfl) ?_
      refine lv_iload_n hx hb dX7_rollback_25 rfl (lv_at hl 2 rfl) ?_
      refine lv_iload_n hx hb dX7_rollback_26 rfl (lv_at hl 0 rfl) ?_
      refine hx_Vi (rest := []) S X (c_X7_runs l G ad σ (nI (t)) (nI (cnt σ t - 1)) hI) gX7_rollback_X7_runs rfl (n := 2) (by decide +kernel) rfl ⟨(Nat.le_of_ble_eq_true rfl), (Nat.le_of_ble_eq_true rfl)⟩ (hx_recvL (q0 := 0) (ci := 7) X rfl (mW_0 _ _ _)) hl.1 rfl (Nat.le_of_ble_eq_true rfl) dX7_rollback_27 ⟨(Nat.le_of_ble_eq_true rfl), (Nat.le_of_ble_eq_true rfl)⟩ (fun r wd1 H locs hp X => ?_)
      obtain ⟨hr27, rfl⟩ := hp
      by_cases h27 : ∃ j, j < 32 ∧ runP σ (nI (t)) (nI (cnt σ t - 1)) j
      · skip
        refine hx_ei (hr27.1 h27) ?_
        refine lv_if_eq (tgt := 36) hx hb dX7_rollback_30 (by decide) (fun c9 => absurd c9 (by decide)) (fun _ => ?_)
        refine lv_ldc (v := -2000015) hx hb hown (hts (Cond.constant RX7 95 (-2000015)) (by decide +kernel)) dX7_rollback_33 ?_
        exact hx_iret S X hr hlk (Nat.le_of_ble_eq_true rfl) (Nat.le_of_ble_eq_true rfl) (by simp [M_rollback, wif_t, wif_f, h2', hct, c18, h27]) dX7_rollback_35
      · skip
        refine hx_ei (hr27.2 h27) ?_
        refine lv_if_eq (tgt := 36) hx hb dX7_rollback_30 (by decide) (fun _ => ?_) (fun c9 => absurd (by decide) c9)
        refine lv_iconst (v := 0) hx hb dX7_rollback_36 (by decide) ?_
        refine lv_istore_n (lv' := [(3, .int ((0 : Int32))), (2, .int (nI (cnt σ t - 1))), (0, .ref (ad 0)), (1, .int (nI (t)))]) hx hb dX7_rollback_37 rfl hl (by decide) rfl (fun ls hl => ?_)
        have loop : ∀ (n i : Nat) , i + n = nO σ → True → ∀ (H : Heap) (locs : List Loc) (ls : Array Slot), hH G (va_A (mW G ad σ) s.heap.size) s.heap s (mW G ad (rbL σ (nI t) (nI (cnt σ t - 1)) i)) H locs → lv_has ls 4 [(0, .ref (ad 0)), (1, .int (nI (t))), (2, .int (nI (cnt σ t - 1))), (3, .int (nI (i)))] → W p l e ({ frames := 3, cells := 0, slots := 0, locals := 64 } : Room) s m args below meth c H locs 0 0 (MQ below (va_Qi (fun r w => r = (M_rollback σ (nI t)).1 ∧ w = mW G ad (M_rollback σ (nI t)).2) (hB G (va_A (mW G ad σ) s.heap.size)) (va_A (mW G ad σ) s.heap.size)) args s 0 0 (va_A (mW G ad σ) s.heap.size)) (F0 m 38 ls []) := by
          intro n
          induction n with
          | zero =>
            intro i  hi hv H locs ls X hl
            have hin : i = nO σ := by omega
            refine lv_iload_n hx hb dX7_rollback_38 rfl (lv_at hl 3 rfl) ?_
            refine lv_aload_n hx hb dX7_rollback_39 rfl (lv_at hl 0 rfl) ?_
            refine hx_getL S X (ci := 7) 0 (mW_0 _ _ _) rfl hin7 6 (by decide) (by decide +kernel) rfl dX7_rollback_40 ?_
            refine hx_ei (show _ = nI (nO σ) from (rbL_k i (by decide) (by decide) (by decide) 1).trans hI.2.1.1) ?_
            refine lv_icmp_ge (tgt := 109) hx hb dX7_rollback_43 (by decide) (fun _ => ?_) (fun c9 => absurd (nI_le (a := nO σ) (b := i) (by omega) (by omega)) c9)
            refine lv_aload_n hx hb dX7_rollback_109 rfl (lv_at hl 0 rfl) ?_
            refine hx_getL S X (ci := 7) 0 (mW_0 _ _ _) rfl hin7 1 (by decide) (by decide +kernel) rfl dX7_rollback_110 ?_
            refine lv_iload_n hx hb dX7_rollback_113 rfl (lv_at hl 1 rfl) ?_
            refine lv_iconst (v := 1) hx hb dX7_rollback_114 (by decide) ?_
            refine hx_Si (rest := [.ref (ad 1)]) S X (c_X7_at l G _ (t) (1)) gX7_rollback_X7_at rfl (n := 2) (by decide +kernel) rfl ⟨(Nat.le_of_ble_eq_true rfl), (Nat.le_of_ble_eq_true rfl)⟩ hl.1 rfl (Nat.le_of_ble_eq_true rfl) dX7_rollback_115 ⟨(Nat.le_of_ble_eq_true rfl), (Nat.le_of_ble_eq_true rfl)⟩ (fun r wd1 H locs hp X => ?_)
            obtain ⟨rfl, rfl⟩ := hp
            refine lv_iconst (v := 0) hx hb dX7_rollback_118 (by decide) ?_
            refine mx_st S X 1 (N := 972) (mW_1 _ _ _) (j := 162 * t + 1) (by omega) (by decide) (x := (0 : Int32)) dX7_rollback_119 (mW_s1 _ _ _ _ _) (fun H locs X => ?_)
            refine lv_aload_n hx hb dX7_rollback_120 rfl (lv_at hl 0 rfl) ?_
            refine hx_getL S X (ci := 7) 0 (mW_0 _ _ _) rfl hin7 1 (by decide) (by decide +kernel) rfl dX7_rollback_121 ?_
            refine lv_iload_n hx hb dX7_rollback_124 rfl (lv_at hl 1 rfl) ?_
            refine lv_iconst (v := 0) hx hb dX7_rollback_125 (by decide) ?_
            refine hx_Si (rest := [.ref (ad 1)]) S X (c_X7_at l G _ (t) (0)) gX7_rollback_X7_at rfl (n := 2) (by decide +kernel) rfl ⟨(Nat.le_of_ble_eq_true rfl), (Nat.le_of_ble_eq_true rfl)⟩ hl.1 rfl (Nat.le_of_ble_eq_true rfl) dX7_rollback_126 ⟨(Nat.le_of_ble_eq_true rfl), (Nat.le_of_ble_eq_true rfl)⟩ (fun r wd1 H locs hp X => ?_)
            obtain ⟨rfl, rfl⟩ := hp
            refine lv_dup2_11 hx hb dX7_rollback_129 rfl rfl ?_
            refine mx_ld S X 1 (N := 972) (mW_1 _ _ _) (j := 162 * t + 0) (by omega) (by decide) (x := nI (cnt σ t)) (by rw [mS_ne _ _ _ (by omega)]; exact (rbL_k i (by decide) (by decide) (by decide) _).trans hk0) dX7_rollback_130 ?_
            refine lv_iconst (v := 1) hx hb dX7_rollback_131 (by decide) ?_
            refine lv_isub hx hb dX7_rollback_132 ?_
            refine hx_ei (show _ = nI ((cnt σ t) - (1)) from pk_sub (a := cnt σ t) (b := 1) (by omega)) ?_
            refine mx_st S X 1 (N := 972) (mW_1 _ _ _) (j := 162 * t + 0) (by omega) (by decide) (x := nI ((cnt σ t) - (1))) dX7_rollback_133 (mW_s1 _ _ _ _ _) (fun H locs X => ?_)
            refine lv_aload_n hx hb dX7_rollback_134 rfl (lv_at hl 0 rfl) ?_
            refine lv_iload_n hx hb dX7_rollback_135 rfl (lv_at hl 1 rfl) ?_
            refine hx_Vi (rest := []) S X (c_X7_current l G ad (mS (mS (rbL σ (nI t) (nI (cnt σ t - 1)) i) 1 (162 * t + 1) ((0 : Int32))) 1 (162 * t + 0) (nI ((cnt σ t) - (1)))) (t) (by omega)) gX7_rollback_X7_current rfl (n := 1) (by decide +kernel) rfl ⟨(Nat.le_of_ble_eq_true rfl), (Nat.le_of_ble_eq_true rfl)⟩ (hx_recvL (q0 := 0) (ci := 7) X rfl (mW_0 _ _ _)) hl.1 rfl (Nat.le_of_ble_eq_true rfl) dX7_rollback_136 ⟨(Nat.le_of_ble_eq_true rfl), (Nat.le_of_ble_eq_true rfl)⟩ (fun r wd1 H locs hp X => ?_)
            obtain ⟨rfl, rfl⟩ := hp
            refine hx_ei (show _ = nI ((cnt σ t) - (1)) - 1 from by rw [show (mS (mS (rbL σ (nI t) (nI (cnt σ t - 1)) i) 1 (162 * t + 1) ((0 : Int32))) 1 (162 * t + 0) (nI ((cnt σ t) - (1)))) 1 (162 * t + 0) = nI ((cnt σ t) - (1)) from by rw [mS_eq]]) ?_
            exact hx_iret S X hr hlk (Nat.le_of_ble_eq_true rfl) (Nat.le_of_ble_eq_true rfl) (by rw [hin]; simp [M_rollback, wif_t, wif_f, h2', hct, c18, h27]) dX7_rollback_139
          | succ n ih =>
            intro i  hi hv H locs ls X hl
            have hin : i < nO σ := by omega
            refine lv_iload_n hx hb dX7_rollback_38 rfl (lv_at hl 3 rfl) ?_
            refine lv_aload_n hx hb dX7_rollback_39 rfl (lv_at hl 0 rfl) ?_
            refine hx_getL S X (ci := 7) 0 (mW_0 _ _ _) rfl hin7 6 (by decide) (by decide +kernel) rfl dX7_rollback_40 ?_
            refine hx_ei (show _ = nI (nO σ) from (rbL_k i (by decide) (by decide) (by decide) 1).trans hI.2.1.1) ?_
            refine lv_icmp_ge (tgt := 109) hx hb dX7_rollback_43 (by decide) (fun c9 => absurd c9 (nI_ge (a := i) (b := nO σ) (by omega) (by omega))) (fun _ => ?_)
            refine lv_aload_n hx hb dX7_rollback_46 rfl (lv_at hl 0 rfl) ?_
            refine hx_getL S X (ci := 7) 0 (mW_0 _ _ _) rfl hin7 7 (by decide) (by decide +kernel) rfl dX7_rollback_47 ?_
            refine lv_iload_n hx hb dX7_rollback_50 rfl (lv_at hl 3 rfl) ?_
            refine mx_zld S X (j := i) (by omega) (x := (rbL σ (nI t) (nI (cnt σ t - 1)) i) 6 (i)) (rfl) dX7_rollback_51 ?_
            refine lv_if_eq (tgt := 103) hx hb dX7_rollback_52 (by decide) (fun c52 => ?_) (fun c52 => ?_)
            · skip
              refine lv_iinc (v := nI (i + 1)) (lv' := [(3, .int (nI (i + 1))), (0, .ref (ad 0)), (1, .int (nI (t))), (2, .int (nI (cnt σ t - 1)))]) hx hb dX7_rollback_103 hl (k := 3) rfl (nI_add (i) 1) (by decide) rfl (fun ls hl => ?_)
              refine lv_goto (tgt := 38) hx hb dX7_rollback_106 (by decide) ?_
              exact ih (i + 1) (by omega) trivial _ _ _ (X.to (congrArg (mW G ad) (show _ = (rbL σ (nI t) (nI (cnt σ t - 1)) (i + 1)) from by rw [rbL, wif_f (fun q => q.1 c52)]))) (lv_sub hl [1, 2, 3, 0] rfl)
            · skip
              refine lv_aload_n hx hb dX7_rollback_55 rfl (lv_at hl 0 rfl) ?_
              refine hx_getL S X (ci := 7) 0 (mW_0 _ _ _) rfl hin7 8 (by decide) (by decide +kernel) rfl dX7_rollback_56 ?_
              refine lv_iload_n hx hb dX7_rollback_59 rfl (lv_at hl 3 rfl) ?_
              refine mx_ld S X 7 (N := 24) (mW_7 _ _ _) (j := i) (by omega) (by decide) (x := (rbL σ (nI t) (nI (cnt σ t - 1)) i) 7 (i)) (rfl) dX7_rollback_60 ?_
              refine lv_iload_n hx hb dX7_rollback_61 rfl (lv_at hl 1 rfl) ?_
              refine lv_icmp_ne (tgt := 103) hx hb dX7_rollback_62 (by decide) (fun c62 => ?_) (fun c62 => ?_)
              · skip
                refine lv_iinc (v := nI (i + 1)) (lv' := [(3, .int (nI (i + 1))), (0, .ref (ad 0)), (1, .int (nI (t))), (2, .int (nI (cnt σ t - 1)))]) hx hb dX7_rollback_103 hl (k := 3) rfl (nI_add (i) 1) (by decide) rfl (fun ls hl => ?_)
                refine lv_goto (tgt := 38) hx hb dX7_rollback_106 (by decide) ?_
                exact ih (i + 1) (by omega) trivial _ _ _ (X.to (congrArg (mW G ad) (show _ = (rbL σ (nI t) (nI (cnt σ t - 1)) (i + 1)) from by rw [rbL, wif_f (fun q => c62 q.2.1)]))) (lv_sub hl [1, 2, 3, 0] rfl)
              · skip
                refine lv_aload_n hx hb dX7_rollback_65 rfl (lv_at hl 0 rfl) ?_
                refine hx_getL S X (ci := 7) 0 (mW_0 _ _ _) rfl hin7 9 (by decide) (by decide +kernel) rfl dX7_rollback_66 ?_
                refine lv_iload_n hx hb dX7_rollback_69 rfl (lv_at hl 3 rfl) ?_
                refine mx_ld S X 8 (N := 24) (mW_8 _ _ _) (j := i) (by omega) (by decide) (x := (rbL σ (nI t) (nI (cnt σ t - 1)) i) 8 (i)) (rfl) dX7_rollback_70 ?_
                refine lv_iload_n hx hb dX7_rollback_71 rfl (lv_at hl 2 rfl) ?_
                refine lv_icmp_ne (tgt := 103) hx hb dX7_rollback_72 (by decide) (fun c72 => ?_) (fun c72 => ?_)
                · skip
                  refine lv_iinc (v := nI (i + 1)) (lv' := [(3, .int (nI (i + 1))), (0, .ref (ad 0)), (1, .int (nI (t))), (2, .int (nI (cnt σ t - 1)))]) hx hb dX7_rollback_103 hl (k := 3) rfl (nI_add (i) 1) (by decide) rfl (fun ls hl => ?_)
                  refine lv_goto (tgt := 38) hx hb dX7_rollback_106 (by decide) ?_
                  exact ih (i + 1) (by omega) trivial _ _ _ (X.to (congrArg (mW G ad) (show _ = (rbL σ (nI t) (nI (cnt σ t - 1)) (i + 1)) from by rw [rbL, wif_f (fun q => c72 q.2.2)]))) (lv_sub hl [1, 2, 3, 0] rfl)
                · skip
                  refine lv_aload_n hx hb dX7_rollback_75 rfl (lv_at hl 0 rfl) ?_
                  refine hx_getL S X (ci := 7) 0 (mW_0 _ _ _) rfl hin7 10 (by decide) (by decide +kernel) rfl dX7_rollback_76 ?_
                  refine lv_iload_n hx hb dX7_rollback_79 rfl (lv_at hl 3 rfl) ?_
                  refine mx_ld S X 9 (N := 24) (mW_9 _ _ _) (j := i) (by omega) (by decide) (x := (rbL σ (nI t) (nI (cnt σ t - 1)) i) 9 (i)) (rfl) dX7_rollback_80 ?_
                  refine lv_iload_n hx hb dX7_rollback_81 rfl (lv_at hl 2 rfl) ?_
                  refine lv_icmp_ne (tgt := 93) hx hb dX7_rollback_82 (by decide) (fun c82 => ?_) (fun c82 => ?_)
                  · skip
                    refine lv_aload_n hx hb dX7_rollback_93 rfl (lv_at hl 0 rfl) ?_
                    refine hx_getL S X (ci := 7) 0 (mW_0 _ _ _) rfl hin7 9 (by decide) (by decide +kernel) rfl dX7_rollback_94 ?_
                    refine lv_iload_n hx hb dX7_rollback_97 rfl (lv_at hl 3 rfl) ?_
                    refine lv_dup2_11 hx hb dX7_rollback_98 rfl rfl ?_
                    refine mx_ld S X 8 (N := 24) (mW_8 _ _ _) (j := i) (by omega) (by decide) (x := (rbL σ (nI t) (nI (cnt σ t - 1)) i) 8 (i)) (rfl) dX7_rollback_99 ?_
                    refine lv_iconst (v := 1) hx hb dX7_rollback_100 (by decide) ?_
                    refine lv_isub hx hb dX7_rollback_101 ?_
                    refine mx_st S X 8 (N := 24) (mW_8 _ _ _) (j := i) (by omega) (by decide) (x := ((rbL σ (nI t) (nI (cnt σ t - 1)) i) 8 (i)) - ((1 : Int32))) dX7_rollback_102 (mW_s8 _ _ _ _ _) (fun H locs X => ?_)
                    refine lv_iinc (v := nI (i + 1)) (lv' := [(3, .int (nI (i + 1))), (0, .ref (ad 0)), (1, .int (nI (t))), (2, .int (nI (cnt σ t - 1)))]) hx hb dX7_rollback_103 hl (k := 3) rfl (nI_add (i) 1) (by decide) rfl (fun ls hl => ?_)
                    refine lv_goto (tgt := 38) hx hb dX7_rollback_106 (by decide) ?_
                    exact ih (i + 1) (by omega) trivial _ _ _ (X.to (congrArg (mW G ad) (show _ = (rbL σ (nI t) (nI (cnt σ t - 1)) (i + 1)) from by rw [rbL, wif_t ⟨c52, c62, c72⟩, wif_f c82]))) (lv_sub hl [1, 2, 3, 0] rfl)
                  · skip
                    refine lv_aload_n hx hb dX7_rollback_85 rfl (lv_at hl 0 rfl) ?_
                    refine lv_iload_n hx hb dX7_rollback_86 rfl (lv_at hl 3 rfl) ?_
                    refine hx_Vv (rest := []) S X (c_X7_delete l G ad (rbL σ (nI t) (nI (cnt σ t - 1)) i) (i) (by omega)) gX7_rollback_X7_delete rfl (n := 1) (by decide +kernel) rfl ⟨(Nat.le_of_ble_eq_true rfl), (Nat.le_of_ble_eq_true rfl)⟩ (hx_recvL (q0 := 0) (ci := 7) X rfl (mW_0 _ _ _)) hl.1 rfl (Nat.le_of_ble_eq_true rfl) dX7_rollback_87 ⟨(Nat.le_of_ble_eq_true rfl), (Nat.le_of_ble_eq_true rfl)⟩ (fun wd1 H locs hp X => ?_)
                    obtain rfl := hp
                    refine lv_goto (tgt := 103) hx hb dX7_rollback_90 (by decide) ?_
                    refine lv_iinc (v := nI (i + 1)) (lv' := [(3, .int (nI (i + 1))), (0, .ref (ad 0)), (1, .int (nI (t))), (2, .int (nI (cnt σ t - 1)))]) hx hb dX7_rollback_103 hl (k := 3) rfl (nI_add (i) 1) (by decide) rfl (fun ls hl => ?_)
                    refine lv_goto (tgt := 38) hx hb dX7_rollback_106 (by decide) ?_
                    exact ih (i + 1) (by omega) trivial _ _ _ (X.to (congrArg (mW G ad) (show _ = (rbL σ (nI t) (nI (cnt σ t - 1)) (i + 1)) from by rw [rbL, wif_t ⟨c52, c62, c72⟩, wif_t c82]))) (lv_sub hl [1, 2, 3, 0] rfl)
        exact loop (nO σ) 0 (by omega) trivial _ _ _ X (lv_sub hl [2, 3, 1, 0] rfl)
    · skip
      have c18 := (nI_eq (a := cnt σ t - 1) (b := 0) (by omega) (by omega)).mp c18
      refine lv_ldc (v := -2000002) hx hb hown (hts (Cond.constant RX7 67 (-2000002)) (by decide +kernel)) dX7_rollback_21 ?_
      exact hx_iret S X hr hlk (Nat.le_of_ble_eq_true rfl) (Nat.le_of_ble_eq_true rfl) (by simp [M_rollback, wif_t, wif_f, h2', hct, c18]) dX7_rollback_23
  · skip
    refine hx_ei (hr2.2 h2) ?_
    refine lv_if_ne (tgt := 11) hx hb dX7_rollback_5 (by decide) (fun c9 => absurd (by decide) c9) (fun _ => ?_)
    refine lv_ldc (v := -2000001) hx hb hown (hts (Cond.constant RX7 66 (-2000001)) (by decide +kernel)) dX7_rollback_8 ?_
    exact hx_iret S X hr hlk (Nat.le_of_ble_eq_true rfl) (Nat.le_of_ble_eq_true rfl) (by simp [M_rollback, wif_t, wif_f, h2]) dX7_rollback_10
end
section
/-! objects -/
def topF (σ : Sg) (th : Nat) : Nat := 8 * th + (dN σ th - 1)
theorem topF_div {σ : Sg} {th : Nat} (h8 : dN σ th ≤ 8) : topF σ th / 8 = th := by unfold topF; omega
theorem topF_mod {σ : Sg} {th : Nat} (h8 : dN σ th ≤ 8) : topF σ th % 8 = dN σ th - 1 := by unfold topF; omega
theorem topF_lt {σ : Sg} {th : Nat} (ht : th < 4) (h8 : dN σ th ≤ 8) : topF σ th < 32 := by unfold topF; omega
theorem topF_liv {σ : Sg} {th : Nat} (h0 : ¬ dN σ th = 0) (h8 : dN σ th ≤ 8) : liv σ (topF σ th) := by
  unfold liv
  rw [topF_div h8, topF_mod h8]
  omega
theorem isO_has {σ : Sg} (hI : Inv σ) {o : Nat} (ho : o < nO σ) (h : ¬ σ 6 o = 0) : isO σ (nI o) := ⟨o, ⟨ho, (hI.2.2.2.2.2 o ho).1.elim (fun q => absurd q h) id⟩, rfl⟩
theorem isO_not {σ : Sg} (hI : Inv σ) {o : Nat} (ho : o < nO σ) (h : σ 6 o = 0) : ¬ isO σ (nI o) := by
  rintro ⟨o2, ⟨h1, h2⟩, e⟩
  have h3 := hI.2.1.2
  have := (nI_eq (by omega) (by omega)).mp e
  subst this
  rw [h] at h2
  exact absurd h2 (by decide)
noncomputable def M_objectVersion (σ : Sg) (object : Int32) : Int32 × Sg := wif (isO σ object) (nI (oV σ (cN object)), σ) (-2000004, σ)
noncomputable def M_conversions (σ : Sg) (object : Int32) : Int32 × Sg := wif (isO σ object) (nI (oV σ (cN object) - oF σ (cN object)), σ) (-2000004, σ)
def cel (o v k : Nat) : Nat := 64 * o + 8 * v + k
noncomputable def M_peek (σ : Sg) (object field : Int32) : Int32 × Sg := wif (isO σ object) (wif (hasF (σ 1 (162 * oC σ (cN object) + (2 + oV σ (cN object)))) field) (σ 10 (cel (cN object) (oV σ (cN object)) (cN field)), σ) (-2000005, σ)) (-2000004, σ)
noncomputable def pbL (σ : Sg) (o : Int32) : Nat → Int32
  | 0 => -2000016
  | n + 1 => wif ((liv σ n ∧ pinB (σ 5 n) o) ∧ (pbL σ o n < 0 ∨ σ 4 n < pbL σ o n)) (σ 4 n) (pbL σ o n)
noncomputable def M_pinnedBy (σ : Sg) (object : Int32) : Int32 × Sg := wif (isO σ object) (pbL σ object 32, σ) (-2000004, σ)
def outP (σ : Sg) (type : Int32) (o : Nat) : Prop := ¬ σ 6 o = 0 ∧ σ 7 o = type ∧ ¬ σ 8 o = nI (cnt σ (cN type)) - 1
noncomputable def M_outdated (σ : Sg) (type : Int32) : Int32 × Sg := wif (isC σ type) (nI (cnp (outP σ type) (nO σ)), σ) (-2000001, σ)
def crS (σ : Sg) (f o : Nat) : Sg := mS (mS (mS (mS (mS σ 0 1 (nI (o + 1))) 6 o 1) 7 o (nI (fC σ f))) 8 o (nI (fV σ f))) 9 o (nI (fV σ f))
def crL (σ : Sg) (f o : Nat) : Nat → Sg
  | 0 => crS σ f o
  | n + 1 => mS (crL σ f o n) 10 (cel o (fV σ f) n) 0
theorem crL_k {σ : Sg} {f o : Nat} (n : Nat) {k : Nat} (h : k ≠ 10) (j : Nat) : crL σ f o n k j = crS σ f o k j := by
  induction n with
  | zero => rfl
  | succ n ih => rw [crL, mS_nk _ _ _ _ h, ih]
noncomputable def M_create (σ : Sg) (thread : Int32) : Int32 × Sg := wif (isT thread) (wif (dN σ (cN thread) = 0) (-2000006, σ) (wif (nO σ = 24) (-2000010, σ) (nI (nO σ), mS (crL σ (topF σ (cN thread)) (nO σ) 8) 5 (topF σ (cN thread)) (σ 5 (topF σ (cN thread)) ||| (1 : Int32) <<< (nI (nO σ) &&& 31))))) (-2000003, σ)
/-! conversions -/
def cpL (σ : Sg) (o to : Nat) : Nat → Sg
  | 0 => σ
  | n + 1 => mS (cpL σ o to n) 10 (cel o to n) (cpL σ o to n 10 (cel o (to - 1) n))
theorem cpL_k {σ : Sg} {o to : Nat} (n : Nat) {k : Nat} (h : k ≠ 10) (j : Nat) : cpL σ o to n k j = σ k j := by
  induction n with
  | zero => rfl
  | succ n ih => rw [cpL, mS_nk _ _ _ _ h, ih]
def stI (t v n : Nat) : Nat := 162 * t + (18 + 18 * v + 3 * n)
/-- a value times a factor, as the reference keeps it -/
def sclR (p : Int64) : Int32 := if 0 < lg_cmp p 1000000 then 1000001 else if lg_cmp p (-1000000) < 0 then -1000001 else p.toInt32
def stepS (s : Sg) (o to : Nat) (k a b : Int32) : Sg :=
  if k = 0 then mS s 10 (cel o to (cN a)) b
  else if k = 2 then mS s 10 (cel o to (cN b)) (s 10 (cel o to (cN a)))
  else if k = 3 then mS s 10 (cel o to (cN a)) (sclR ((s 10 (cel o to (cN a))).toInt64 * b.toInt64))
  else if k = 4 then mS s 10 (cel o to (cN b)) (s 10 (cel o to (cN b)) + s 10 (cel o to (cN a)))
  else s
def chgF (k a b : Int32) : Nat := if k = 2 ∨ k = 4 then cN b else cN a
noncomputable def stS (σ : Sg) (o to t : Nat) : Nat → Bool × Sg
  | 0 => (true, cpL σ o to 8)
  | n + 1 => if (stS σ o to t n).1 = true then
      (wif (isVal (stepS (stS σ o to t n).2 o to (σ 1 (stI t to n)) (σ 1 (stI t to n + 1)) (σ 1 (stI t to n + 2)) 10 (cel o to (chgF (σ 1 (stI t to n)) (σ 1 (stI t to n + 1)) (σ 1 (stI t to n + 2)))))) true false,
       stepS (stS σ o to t n).2 o to (σ 1 (stI t to n)) (σ 1 (stI t to n + 1)) (σ 1 (stI t to n + 2)))
    else stS σ o to t n
theorem stepS_k {s : Sg} {o to : Nat} {a b c : Int32} {k : Nat} (h : k ≠ 10) (j : Nat) : stepS s o to a b c k j = s k j := by
  unfold stepS
  split
  · exact mS_nk _ _ _ _ h
  · split
    · exact mS_nk _ _ _ _ h
    · split
      · exact mS_nk _ _ _ _ h
      · split
        · exact mS_nk _ _ _ _ h
        · rfl
theorem stS_k {σ : Sg} {o to t : Nat} (n : Nat) {k : Nat} (h : k ≠ 10) (j : Nat) : (stS σ o to t n).2 k j = σ k j := by
  induction n with
  | zero => exact cpL_k 8 h j
  | succ n ih =>
    rw [stS]
    split
    · exact (stepS_k h j).trans ih
    · exact ih
theorem stS_stop {σ : Sg} {o to t i : Nat} (h : ¬ (stS σ o to t i).1 = true) (d : Nat) : stS σ o to t (i + d) = stS σ o to t i := by
  induction d with
  | zero => rfl
  | succ d ih => rw [← Nat.add_assoc, stS, ih, if_neg h]
theorem stS_yes {σ : Sg} {o to t i : Nat} {s' : Sg} (h : (stS σ o to t i).1 = true) (hs : stepS (stS σ o to t i).2 o to (σ 1 (stI t to i)) (σ 1 (stI t to i + 1)) (σ 1 (stI t to i + 2)) = s') (hv : isVal (s' 10 (cel o to (chgF (σ 1 (stI t to i)) (σ 1 (stI t to i + 1)) (σ 1 (stI t to i + 2)))))) : stS σ o to t (i + 1) = (true, s') := by
  rw [stS, if_pos h, hs, wif_t hv]
theorem stS_no {σ : Sg} {o to t i : Nat} {s' : Sg} (h : (stS σ o to t i).1 = true) (hs : stepS (stS σ o to t i).2 o to (σ 1 (stI t to i)) (σ 1 (stI t to i + 1)) (σ 1 (stI t to i + 2)) = s') (hv : ¬ isVal (s' 10 (cel o to (chgF (σ 1 (stI t to i)) (σ 1 (stI t to i + 1)) (σ 1 (stI t to i + 2)))))) : stS σ o to t (i + 1) = (false, s') := by
  rw [stS, if_pos h, hs, wif_f hv]
noncomputable def M_once (σ : Sg) (o to : Nat) : Bool × Sg := stS σ o to (oC σ o) (stp σ (oC σ o) to)
theorem M_once_k {σ : Sg} {o to k : Nat} (h : k ≠ 10) (j : Nat) : (M_once σ o to).2 k j = σ k j := stS_k _ h j
noncomputable def cvV (σ : Sg) (o v : Nat) : Nat → Bool × Sg
  | 0 => (true, σ)
  | n + 1 => if (cvV σ o v n).1 = true then M_once (cvV σ o v n).2 o (v + 1 + n) else cvV σ o v n
theorem cvV_k {σ : Sg} {o v : Nat} (n : Nat) {k : Nat} (h : k ≠ 10) (j : Nat) : (cvV σ o v n).2 k j = σ k j := by
  induction n with
  | zero => rfl
  | succ n ih =>
    rw [cvV]
    split
    · rw [M_once_k h, ih]
    · exact ih
theorem cvV_stop {σ : Sg} {o v i : Nat} (h : ¬ (cvV σ o v i).1 = true) (d : Nat) : cvV σ o v (i + d) = cvV σ o v i := by
  induction d with
  | zero => rfl
  | succ d ih => rw [← Nat.add_assoc, cvV, ih, if_neg h]
theorem cvV_go {σ : Sg} {o v i : Nat} (h : (cvV σ o v i).1 = true) : cvV σ o v (i + 1) = M_once (cvV σ o v i).2 o (v + 1 + i) := by rw [cvV, if_pos h]
noncomputable def M_convert (σ : Sg) (o to : Nat) : Bool × Sg :=
  if (cvV σ o (oV σ o) (to - oV σ o)).1 = true then (true, mS (cvV σ o (oV σ o) (to - oV σ o)).2 8 o (nI to)) else (false, mS (cvV σ o (oV σ o) (to - oV σ o)).2 8 o (nI (oV σ o)))
/-! access -/
def pinS (s : Sg) (f o : Nat) : Sg := mS s 5 f (s 5 f ||| (1 : Int32) <<< (nI o &&& 31))
noncomputable def M_acc (σ : Sg) (th o : Nat) (field : Int32) : Int32 × Sg :=
  wif (fC σ (topF σ th) = oC σ o) (wif (hasF (σ 1 (162 * oC σ o + (2 + fV σ (topF σ th)))) field) (wif (fV σ (topF σ th) < oV σ o) (-2000012, σ)
    (wif (oV σ o < fV σ (topF σ th)) (wif (∃ j, j < 32 ∧ helP σ (nI o) (nI (fV σ (topF σ th))) j) (-2000013, σ)
      (wif ((M_convert σ o (fV σ (topF σ th))).1 = true) (0, pinS (M_convert σ o (fV σ (topF σ th))).2 (topF σ th) o) (-2000014, (M_convert σ o (fV σ (topF σ th))).2))) (0, pinS σ (topF σ th) o))) (-2000005, σ)) (-2000011, σ)
noncomputable def M_access (σ : Sg) (thread object field : Int32) : Int32 × Sg := wif (isT thread) (wif (dN σ (cN thread) = 0) (-2000006, σ) (wif (isO σ object) (M_acc σ (cN thread) (cN object) field) (-2000004, σ))) (-2000003, σ)
noncomputable def M_read (σ : Sg) (thread object field : Int32) : Int32 × Sg := wif ((M_access σ thread object field).1 = 0) ((M_access σ thread object field).2 10 (cel (cN object) (oV (M_access σ thread object field).2 (cN object)) (cN field)), (M_access σ thread object field).2) (M_access σ thread object field)
noncomputable def M_write (σ : Sg) (thread object field value : Int32) : Int32 × Sg := wif (isVal value) (wif ((M_access σ thread object field).1 = 0) ((M_access σ thread object field).2 10 (cel (cN object) (oV (M_access σ thread object field).2 (cN object)) (cN field)), mS (M_access σ thread object field).2 10 (cel (cN object) (oV (M_access σ thread object field).2 (cN object)) (cN field)) value) (M_access σ thread object field)) (-2000007, σ)
theorem isB_ne {r : Int32} {P : Prop} (h : isB r P) (h0 : ¬ r = 0) : P := Classical.byContradiction fun q => h0 (h.2 q)
theorem isB_eq {r : Int32} {P : Prop} (h : isB r P) (h0 : r = 0) : ¬ P := fun q => absurd ((h.1 q).symm.trans h0) (by decide)
theorem InvC_of {σ s : Sg} (h : ∀ j, s 1 j = σ 1 j) {t : Nat} (hC : InvC σ t) : InvC s t := by
  unfold InvC cnt stp at hC ⊢
  simp only [h]
  exact hC
theorem oC_of {σ s : Sg} (h : ∀ j, s 7 j = σ 7 j) (o : Nat) : oC s o = oC σ o := by unfold oC; rw [h]
theorem cvV_pre {σ : Sg} {o v : Nat} (i : Nat) (h7 : σ 7 o = nI (oC σ o)) (h6 : oC σ o < 6) (hC : InvC σ (oC σ o)) : (cvV σ o v i).2 7 o = nI (oC (cvV σ o v i).2 o) ∧ oC (cvV σ o v i).2 o < 6 ∧ InvC (cvV σ o v i).2 (oC (cvV σ o v i).2 o) := by
  have e : oC (cvV σ o v i).2 o = oC σ o := oC_of (fun j => cvV_k i (by decide) j) o
  rw [e]
  exact ⟨(cvV_k i (by decide) o).trans h7, h6, InvC_of (fun j => cvV_k i (by decide) j) hC⟩
theorem M_convert_t {σ : Sg} {o to : Nat} (h : (cvV σ o (oV σ o) (to - oV σ o)).1 = true) : M_convert σ o to = (true, mS (cvV σ o (oV σ o) (to - oV σ o)).2 8 o (nI to)) := by rw [M_convert, if_pos h]
theorem M_convert_f {σ : Sg} {o to : Nat} (h : ¬ (cvV σ o (oV σ o) (to - oV σ o)).1 = true) : M_convert σ o to = (false, mS (cvV σ o (oV σ o) (to - oV σ o)).2 8 o (nI (oV σ o))) := by rw [M_convert, if_neg h]
theorem M_convert_k {σ : Sg} {o to k : Nat} (h8 : k ≠ 8) (h10 : k ≠ 10) (j : Nat) : (M_convert σ o to).2 k j = σ k j := by
  by_cases h : (cvV σ o (oV σ o) (to - oV σ o)).1 = true
  · rw [M_convert_t h]; exact (mS_nk _ _ _ _ h8).trans (cvV_k _ h10 j)
  · rw [M_convert_f h]; exact (mS_nk _ _ _ _ h8).trans (cvV_k _ h10 j)
/-- an access that goes through -/
theorem acc_ok {σ : Sg} (hI : Inv σ) {thread object field : Int32} (h : (M_access σ thread object field).1 = 0) :
    ∃ th o f : Nat, (th < 4 ∧ thread = nI th) ∧ (o < nO σ ∧ σ 6 o = 1 ∧ object = nI o) ∧ (f < 8 ∧ field = nI f) ∧ (¬ dN σ th = 0) ∧ fC σ (topF σ th) = oC σ o ∧ hasF (σ 1 (162 * oC σ o + (2 + fV σ (topF σ th)))) (nI f) ∧ ((M_access σ thread object field).2 8 o = nI (fV σ (topF σ th))) ∧ fV σ (topF σ th) < 8 := by
  have h6 := hI.1.2
  have h24 := hI.2.1.2
  by_cases c1 : isT thread
  case neg => rw [M_access, wif_f c1] at h; exact absurd (show (-2000003 : Int32) = 0 from h) (by decide)
  obtain ⟨th, hth, rfl⟩ := id c1
  have ct : cN (nI th) = th := nI_clamp (by omega)
  rw [M_access, wif_t c1, ct] at h ⊢
  by_cases c2 : dN σ th = 0
  case pos => rw [wif_t c2] at h; exact absurd (show (-2000006 : Int32) = 0 from h) (by decide)
  rw [wif_f c2] at h ⊢
  by_cases c3 : isO σ object
  case neg => rw [wif_f c3] at h; exact absurd (show (-2000004 : Int32) = 0 from h) (by decide)
  obtain ⟨o, ⟨ho, hex⟩, rfl⟩ := id c3
  have co : cN (nI o) = o := nI_clamp (by omega)
  rw [wif_t c3, co] at h ⊢
  obtain ⟨hd0, hd8⟩ := hI.2.2.2.1 th hth
  have hfr := topF_lt hth hd8
  obtain ⟨⟨g1, g2⟩, ⟨g3, g4⟩, -⟩ := hI.2.2.2.2.1 (topF σ th) hfr (topF_liv c2 hd8)
  obtain ⟨⟨o1, o2⟩, ⟨o3, o4⟩, -⟩ := (hI.2.2.2.2.2 o ho).2 hex
  have k8 := (hI.2.2.1 _ g2).1.2.2
  rw [M_acc] at h ⊢
  by_cases c4 : fC σ (topF σ th) = oC σ o
  case neg => rw [wif_f c4] at h; exact absurd (show (-2000011 : Int32) = 0 from h) (by decide)
  rw [wif_t c4] at h ⊢
  by_cases c5 : hasF (σ 1 (162 * oC σ o + (2 + fV σ (topF σ th)))) field
  case neg => rw [wif_f c5] at h; exact absurd (show (-2000005 : Int32) = 0 from h) (by decide)
  obtain ⟨⟨f, hf, rfl⟩, hbit⟩ := id c5
  rw [wif_t c5] at h ⊢
  by_cases c6 : fV σ (topF σ th) < oV σ o
  case pos => rw [wif_t c6] at h; exact absurd (show (-2000012 : Int32) = 0 from h) (by decide)
  rw [wif_f c6] at h ⊢
  refine ⟨th, o, f, ⟨hth, rfl⟩, ⟨ho, hex, rfl⟩, ⟨hf, rfl⟩, c2, c4, c5, ?_, by omega⟩
  by_cases c7 : oV σ o < fV σ (topF σ th)
  · rw [wif_t c7] at h ⊢
    by_cases c8 : ∃ j, j < 32 ∧ helP σ (nI o) (nI (fV σ (topF σ th))) j
    case pos => rw [wif_t c8] at h; exact absurd (show (-2000013 : Int32) = 0 from h) (by decide)
    rw [wif_f c8] at h ⊢
    by_cases c9 : (M_convert σ o (fV σ (topF σ th))).1 = true
    case neg => rw [wif_f c9] at h; exact absurd (show (-2000014 : Int32) = 0 from h) (by decide)
    rw [wif_t c9]
    show pinS (M_convert σ o (fV σ (topF σ th))).2 (topF σ th) o 8 o = _
    rw [pinS, mS_nk _ _ _ _ (by decide)]
    by_cases c : (cvV σ o (oV σ o) (fV σ (topF σ th) - oV σ o)).1 = true
    · rw [M_convert_t c]; exact mS_eq (cvV σ o (oV σ o) (fV σ (topF σ th) - oV σ o)).2 8 o (nI (fV σ (topF σ th)))
    · rw [M_convert_f c] at c9; exact absurd (show false = true from c9) (by decide)
  · rw [wif_f c7]
    show pinS σ (topF σ th) o 8 o = _
    rw [pinS, mS_nk _ _ _ _ (by decide), o3, show oV σ o = fV σ (topF σ th) by omega]
set_option maxRecDepth 100000 in
set_option maxHeartbeats 4000000 in
theorem c_X7_cell (l : Launch) (G : hG) (wd : va_W) (o v k : Nat)  : hMi l G yX7_cell wsX7_cell ({ frames := 0, cells := 0, slots := 0, locals := 0 } : Room) wd [.int (nI (o)), .int (nI (v)), .int (nI (k))] (fun r w => r = nI (cel o v k) ∧ w = wd) := by
  refine hMi.of (cc := cX7_cell) (maxL := 3) (some .int) RX7 rfl (by decide +kernel) rfl (Nat.le_of_ble_eq_true rfl) ?_
  intro p e s m args below meth c S hr hlk X ls hl
  have hx := S.1
  have hb := S.2.1
  have hown := S.2.2.2.1
  have hts := S.2.2.2.2
  have hl : lv_has ls 3 [(0, .int (nI (o))), (1, .int (nI (v))), (2, .int (nI (k)))] := hl
  refine lv_bipush (v := 64) hx hb dX7_cell_0 (by decide) ?_
  refine lv_iload_n hx hb dX7_cell_2 rfl (lv_at hl 0 rfl) ?_
  refine lv_imul hx hb dX7_cell_3 ?_
  refine hx_ei (show _ = nI ((64) * (o)) from pk_mul (64) (o)) ?_
  refine lv_bipush (v := 8) hx hb dX7_cell_4 (by decide) ?_
  refine lv_iload_n hx hb dX7_cell_6 rfl (lv_at hl 1 rfl) ?_
  refine lv_imul hx hb dX7_cell_7 ?_
  refine hx_ei (show _ = nI ((8) * (v)) from pk_mul (8) (v)) ?_
  refine lv_iadd hx hb dX7_cell_8 ?_
  refine hx_ei (show _ = nI ((64) * (o) + (8) * (v)) from nI_add ((64) * (o)) ((8) * (v))) ?_
  refine lv_iload_n hx hb dX7_cell_9 rfl (lv_at hl 2 rfl) ?_
  refine lv_iadd hx hb dX7_cell_10 ?_
  refine hx_ei (show _ = nI ((64) * (o) + (8) * (v) + k) from nI_add ((64) * (o) + (8) * (v)) (k)) ?_
  exact hx_iret S X hr hlk (Nat.le_of_ble_eq_true rfl) (Nat.le_of_ble_eq_true rfl) ⟨rfl, rfl⟩ dX7_cell_11

set_option maxRecDepth 100000 in
set_option maxHeartbeats 4000000 in
theorem c_X7_isObject (l : Launch) (G : hG) (ad : Nat → Nat) (σ : Sg) (x : Int32) (hI : Inv σ) : hMi l G yX7_isObject wsX7_isObject ({ frames := 1, cells := 0, slots := 0, locals := 22 } : Room) (mW G ad σ) [.ref (ad 0), .int (x)] (fun r w => isB r (isO σ x) ∧ w = (mW G ad σ)) := by
  refine hMi.of (cc := cX7_isObject) (maxL := 2) (some .boolean) RX7 rfl (by decide +kernel) rfl (Nat.le_of_ble_eq_true rfl) ?_
  intro p e s m args below meth c S hr hlk X ls hl
  have hx := S.1
  have hb := S.2.1
  have hown := S.2.2.2.1
  have hts := S.2.2.2.2
  have hl : lv_has ls 2 [(0, .ref (ad 0)), (1, .int (x))] := hl
  have hin7 : ∀ w ∈ wsX70, w ∈ wsX7_isObject := by decide +kernel
  have hC6 : nC σ ≤ 6 := hI.1.2
  have hO24 : nO σ ≤ 24 := hI.2.1.2
  refine lv_iload_n hx hb dX7_isObject_0 rfl (lv_at hl 1 rfl) ?_
  refine lv_iconst (v := 0) hx hb dX7_isObject_1 (by decide) ?_
  refine lv_aload_n hx hb dX7_isObject_2 rfl (lv_at hl 0 rfl) ?_
  refine hx_getL S X (ci := 7) 0 (mW_0 _ _ _) rfl hin7 6 (by decide) (by decide +kernel) rfl dX7_isObject_3 ?_
  refine hx_ei (show _ = nI (nO σ) from hI.2.1.1) ?_
  refine lv_iconst (v := 1) hx hb dX7_isObject_6 (by decide) ?_
  refine lv_isub hx hb dX7_isObject_7 ?_
  refine hx_ei (show _ = nI (nO σ) - 1 from rfl) ?_
  refine hx_Si (rest := []) S X (c_X7_in l G _ (x) ((0 : Int32)) (nI (nO σ) - 1)) gX7_isObject_X7_in rfl (n := 3) (by decide +kernel) rfl ⟨(Nat.le_of_ble_eq_true rfl), (Nat.le_of_ble_eq_true rfl)⟩ hl.1 rfl (Nat.le_of_ble_eq_true rfl) dX7_isObject_8 ⟨(Nat.le_of_ble_eq_true rfl), (Nat.le_of_ble_eq_true rfl)⟩ (fun r wd1 H locs hp X => ?_)
  obtain ⟨hr8, rfl⟩ := hp
  by_cases h8 : 0 ≤ x ∧ x ≤ nI (nO σ) - 1
  · skip
    refine hx_ei (hr8.1 h8) ?_
    obtain ⟨o, ho, rfl⟩ := (in_m1 (by omega) x).mp h8
    refine lv_if_eq (tgt := 27) hx hb dX7_isObject_11 (by decide) (fun c9 => absurd c9 (by decide)) (fun _ => ?_)
    refine lv_aload_n hx hb dX7_isObject_14 rfl (lv_at hl 0 rfl) ?_
    refine hx_getL S X (ci := 7) 0 (mW_0 _ _ _) rfl hin7 7 (by decide) (by decide +kernel) rfl dX7_isObject_15 ?_
    refine lv_iload_n hx hb dX7_isObject_18 rfl (lv_at hl 1 rfl) ?_
    refine mx_zld S X (j := o) (by omega) (x := σ 6 (o)) (rfl) dX7_isObject_19 ?_
    refine lv_if_eq (tgt := 27) hx hb dX7_isObject_20 (by decide) (fun c20 => ?_) (fun c20 => ?_)
    · skip
      refine lv_iconst (v := 0) hx hb dX7_isObject_27 (by decide) ?_
      exact hx_zret S X hr hlk (Nat.le_of_ble_eq_true rfl) (Nat.le_of_ble_eq_true rfl) (by decide) ⟨isB_f (isO_not hI ho c20) rfl, rfl⟩ dX7_isObject_28
    · skip
      refine lv_iconst (v := 1) hx hb dX7_isObject_23 (by decide) ?_
      refine lv_goto (tgt := 28) hx hb dX7_isObject_24 (by decide) ?_
      exact hx_zret S X hr hlk (Nat.le_of_ble_eq_true rfl) (Nat.le_of_ble_eq_true rfl) (by decide) ⟨isB_t (isO_has hI ho c20) rfl, rfl⟩ dX7_isObject_28
  · skip
    refine hx_ei (hr8.2 h8) ?_
    refine lv_if_eq (tgt := 27) hx hb dX7_isObject_11 (by decide) (fun _ => ?_) (fun c9 => absurd (by decide) c9)
    refine lv_iconst (v := 0) hx hb dX7_isObject_27 (by decide) ?_
    exact hx_zret S X hr hlk (Nat.le_of_ble_eq_true rfl) (Nat.le_of_ble_eq_true rfl) (by decide) ⟨isB_f (fun ⟨o, ⟨ho, _⟩, e⟩ => h8 ((in_m1 (by omega) x).mpr ⟨o, ho, e⟩)) rfl, rfl⟩ dX7_isObject_28

set_option maxRecDepth 100000 in
set_option maxHeartbeats 4000000 in
theorem c_X7_objectVersion (l : Launch) (G : hG) (ad : Nat → Nat) (σ : Sg) (object : Int32) (hI : Inv σ) : hMi l G yX7_objectVersion wsX7_objectVersion ({ frames := 2, cells := 0, slots := 0, locals := 43 } : Room) (mW G ad σ) [.ref (ad 0), .int (object)] (fun r w => r = (M_objectVersion σ object).1 ∧ w = mW G ad (M_objectVersion σ object).2) := by
  refine hMi.of (cc := cX7_objectVersion) (maxL := 2) (some .int) RX7 rfl (by decide +kernel) rfl (Nat.le_of_ble_eq_true rfl) ?_
  intro p e s m args below meth c S hr hlk X ls hl
  have hx := S.1
  have hb := S.2.1
  have hown := S.2.2.2.1
  have hts := S.2.2.2.2
  have hl : lv_has ls 2 [(0, .ref (ad 0)), (1, .int (object))] := hl
  have hin7 : ∀ w ∈ wsX70, w ∈ wsX7_objectVersion := by decide +kernel
  have hC6 : nC σ ≤ 6 := hI.1.2
  have hO24 : nO σ ≤ 24 := hI.2.1.2
  refine lv_aload_n hx hb dX7_objectVersion_0 rfl (lv_at hl 0 rfl) ?_
  refine lv_iload_n hx hb dX7_objectVersion_1 rfl (lv_at hl 1 rfl) ?_
  refine hx_Vi (rest := []) S X (c_X7_isObject l G ad σ (object) hI) gX7_objectVersion_X7_isObject rfl (n := 1) (by decide +kernel) rfl ⟨(Nat.le_of_ble_eq_true rfl), (Nat.le_of_ble_eq_true rfl)⟩ (hx_recvL (q0 := 0) (ci := 7) X rfl (mW_0 _ _ _)) hl.1 rfl (Nat.le_of_ble_eq_true rfl) dX7_objectVersion_2 ⟨(Nat.le_of_ble_eq_true rfl), (Nat.le_of_ble_eq_true rfl)⟩ (fun r wd1 H locs hp X => ?_)
  obtain ⟨hr2, rfl⟩ := hp
  by_cases h2 : isO σ (object)
  · skip
    refine hx_ei (hr2.1 h2) ?_
    have h2' := h2
    obtain ⟨o, ⟨ho, hex⟩, rfl⟩ := h2
    have hco : (nI o).toNatClampNeg = o := nI_clamp (by omega)
    obtain ⟨⟨ho0, ho1⟩, ⟨ho2, ho3⟩, ⟨ho4, ho5⟩, hov⟩ := (hI.2.2.2.2.2 o ho).2 hex
    have hk8 : cnt σ (oC σ o) ≤ 8 := (hI.2.2.1 _ ho1).1.2.2
    refine lv_if_eq (tgt := 17) hx hb dX7_objectVersion_5 (by decide) (fun c9 => absurd c9 (by decide)) (fun _ => ?_)
    refine lv_aload_n hx hb dX7_objectVersion_8 rfl (lv_at hl 0 rfl) ?_
    refine hx_getL S X (ci := 7) 0 (mW_0 _ _ _) rfl hin7 9 (by decide) (by decide +kernel) rfl dX7_objectVersion_9 ?_
    refine lv_iload_n hx hb dX7_objectVersion_12 rfl (lv_at hl 1 rfl) ?_
    refine mx_ld S X 8 (N := 24) (mW_8 _ _ _) (j := o) (by omega) (by decide) (x := nI (oV σ o)) (ho2) dX7_objectVersion_13 ?_
    refine lv_goto (tgt := 19) hx hb dX7_objectVersion_14 (by decide) ?_
    exact hx_iret S X hr hlk (Nat.le_of_ble_eq_true rfl) (Nat.le_of_ble_eq_true rfl) (by simp [M_objectVersion, wif_t, wif_f, h2', hco]) dX7_objectVersion_19
  · skip
    refine hx_ei (hr2.2 h2) ?_
    refine lv_if_eq (tgt := 17) hx hb dX7_objectVersion_5 (by decide) (fun _ => ?_) (fun c9 => absurd (by decide) c9)
    refine lv_ldc (v := -2000004) hx hb hown (hts (Cond.constant RX7 124 (-2000004)) (by decide +kernel)) dX7_objectVersion_17 ?_
    exact hx_iret S X hr hlk (Nat.le_of_ble_eq_true rfl) (Nat.le_of_ble_eq_true rfl) (by simp [M_objectVersion, wif_t, wif_f, h2]) dX7_objectVersion_19

set_option maxRecDepth 100000 in
set_option maxHeartbeats 4000000 in
theorem c_X7_conversions (l : Launch) (G : hG) (ad : Nat → Nat) (σ : Sg) (object : Int32) (hI : Inv σ) : hMi l G yX7_conversions wsX7_conversions ({ frames := 2, cells := 0, slots := 0, locals := 43 } : Room) (mW G ad σ) [.ref (ad 0), .int (object)] (fun r w => r = (M_conversions σ object).1 ∧ w = mW G ad (M_conversions σ object).2) := by
  refine hMi.of (cc := cX7_conversions) (maxL := 2) (some .int) RX7 rfl (by decide +kernel) rfl (Nat.le_of_ble_eq_true rfl) ?_
  intro p e s m args below meth c S hr hlk X ls hl
  have hx := S.1
  have hb := S.2.1
  have hown := S.2.2.2.1
  have hts := S.2.2.2.2
  have hl : lv_has ls 2 [(0, .ref (ad 0)), (1, .int (object))] := hl
  have hin7 : ∀ w ∈ wsX70, w ∈ wsX7_conversions := by decide +kernel
  have hC6 : nC σ ≤ 6 := hI.1.2
  have hO24 : nO σ ≤ 24 := hI.2.1.2
  refine lv_aload_n hx hb dX7_conversions_0 rfl (lv_at hl 0 rfl) ?_
  refine lv_iload_n hx hb dX7_conversions_1 rfl (lv_at hl 1 rfl) ?_
  refine hx_Vi (rest := []) S X (c_X7_isObject l G ad σ (object) hI) gX7_conversions_X7_isObject rfl (n := 1) (by decide +kernel) rfl ⟨(Nat.le_of_ble_eq_true rfl), (Nat.le_of_ble_eq_true rfl)⟩ (hx_recvL (q0 := 0) (ci := 7) X rfl (mW_0 _ _ _)) hl.1 rfl (Nat.le_of_ble_eq_true rfl) dX7_conversions_2 ⟨(Nat.le_of_ble_eq_true rfl), (Nat.le_of_ble_eq_true rfl)⟩ (fun r wd1 H locs hp X => ?_)
  obtain ⟨hr2, rfl⟩ := hp
  by_cases h2 : isO σ (object)
  · skip
    refine hx_ei (hr2.1 h2) ?_
    have h2' := h2
    obtain ⟨o, ⟨ho, hex⟩, rfl⟩ := h2
    have hco : (nI o).toNatClampNeg = o := nI_clamp (by omega)
    obtain ⟨⟨ho0, ho1⟩, ⟨ho2, ho3⟩, ⟨ho4, ho5⟩, hov⟩ := (hI.2.2.2.2.2 o ho).2 hex
    have hk8 : cnt σ (oC σ o) ≤ 8 := (hI.2.2.1 _ ho1).1.2.2
    refine lv_if_eq (tgt := 24) hx hb dX7_conversions_5 (by decide) (fun c9 => absurd c9 (by decide)) (fun _ => ?_)
    refine lv_aload_n hx hb dX7_conversions_8 rfl (lv_at hl 0 rfl) ?_
    refine hx_getL S X (ci := 7) 0 (mW_0 _ _ _) rfl hin7 9 (by decide) (by decide +kernel) rfl dX7_conversions_9 ?_
    refine lv_iload_n hx hb dX7_conversions_12 rfl (lv_at hl 1 rfl) ?_
    refine mx_ld S X 8 (N := 24) (mW_8 _ _ _) (j := o) (by omega) (by decide) (x := nI (oV σ o)) (ho2) dX7_conversions_13 ?_
    refine lv_aload_n hx hb dX7_conversions_14 rfl (lv_at hl 0 rfl) ?_
    refine hx_getL S X (ci := 7) 0 (mW_0 _ _ _) rfl hin7 10 (by decide) (by decide +kernel) rfl dX7_conversions_15 ?_
    refine lv_iload_n hx hb dX7_conversions_18 rfl (lv_at hl 1 rfl) ?_
    refine mx_ld S X 9 (N := 24) (mW_9 _ _ _) (j := o) (by omega) (by decide) (x := nI (oF σ o)) (ho4) dX7_conversions_19 ?_
    refine lv_isub hx hb dX7_conversions_20 ?_
    refine hx_ei (show _ = nI ((oV σ o) - (oF σ o)) from pk_sub (a := oV σ o) (b := oF σ o) (by omega)) ?_
    refine lv_goto (tgt := 26) hx hb dX7_conversions_21 (by decide) ?_
    exact hx_iret S X hr hlk (Nat.le_of_ble_eq_true rfl) (Nat.le_of_ble_eq_true rfl) (by simp [M_conversions, wif_t, wif_f, h2', hco]) dX7_conversions_26
  · skip
    refine hx_ei (hr2.2 h2) ?_
    refine lv_if_eq (tgt := 24) hx hb dX7_conversions_5 (by decide) (fun _ => ?_) (fun c9 => absurd (by decide) c9)
    refine lv_ldc (v := -2000004) hx hb hown (hts (Cond.constant RX7 124 (-2000004)) (by decide +kernel)) dX7_conversions_24 ?_
    exact hx_iret S X hr hlk (Nat.le_of_ble_eq_true rfl) (Nat.le_of_ble_eq_true rfl) (by simp [M_conversions, wif_t, wif_f, h2]) dX7_conversions_26

set_option maxRecDepth 100000 in
set_option maxHeartbeats 4000000 in
theorem c_X7_peek (l : Launch) (G : hG) (ad : Nat → Nat) (σ : Sg) (object field : Int32) (hI : Inv σ) : hMi l G yX7_peek wsX7_peek ({ frames := 2, cells := 0, slots := 0, locals := 43 } : Room) (mW G ad σ) [.ref (ad 0), .int (object), .int (field)] (fun r w => r = (M_peek σ object field).1 ∧ w = mW G ad (M_peek σ object field).2) := by
  refine hMi.of (cc := cX7_peek) (maxL := 4) (some .int) RX7 rfl (by decide +kernel) rfl (Nat.le_of_ble_eq_true rfl) ?_
  intro p e s m args below meth c S hr hlk X ls hl
  have hx := S.1
  have hb := S.2.1
  have hown := S.2.2.2.1
  have hts := S.2.2.2.2
  have hl : lv_has ls 4 [(0, .ref (ad 0)), (1, .int (object)), (2, .int (field))] := hl
  have hin7 : ∀ w ∈ wsX70, w ∈ wsX7_peek := by decide +kernel
  have hC6 : nC σ ≤ 6 := hI.1.2
  have hO24 : nO σ ≤ 24 := hI.2.1.2
  refine lv_aload_n hx hb dX7_peek_0 rfl (lv_at hl 0 rfl) ?_
  refine lv_iload_n hx hb dX7_peek_1 rfl (lv_at hl 1 rfl) ?_
  refine hx_Vi (rest := []) S X (c_X7_isObject l G ad σ (object) hI) gX7_peek_X7_isObject rfl (n := 1) (by decide +kernel) rfl ⟨(Nat.le_of_ble_eq_true rfl), (Nat.le_of_ble_eq_true rfl)⟩ (hx_recvL (q0 := 0) (ci := 7) X rfl (mW_0 _ _ _)) hl.1 rfl (Nat.le_of_ble_eq_true rfl) dX7_peek_2 ⟨(Nat.le_of_ble_eq_true rfl), (Nat.le_of_ble_eq_true rfl)⟩ (fun r wd1 H locs hp X => ?_)
  obtain ⟨hr2, rfl⟩ := hp
  by_cases h2 : isO σ (object)
  · skip
    refine hx_ei (hr2.1 h2) ?_
    have h2' := h2
    obtain ⟨o, ⟨ho, hex⟩, rfl⟩ := h2
    have hco : (nI o).toNatClampNeg = o := nI_clamp (by omega)
    obtain ⟨⟨ho0, ho1⟩, ⟨ho2, ho3⟩, ⟨ho4, ho5⟩, hov⟩ := (hI.2.2.2.2.2 o ho).2 hex
    have hk8 : cnt σ (oC σ o) ≤ 8 := (hI.2.2.1 _ ho1).1.2.2
    refine lv_if_ne (tgt := 11) hx hb dX7_peek_5 (by decide) (fun _ => ?_) (fun c9 => absurd c9 (by decide))
    refine lv_aload_n hx hb dX7_peek_11 rfl (lv_at hl 0 rfl) ?_
    refine hx_getL S X (ci := 7) 0 (mW_0 _ _ _) rfl hin7 9 (by decide) (by decide +kernel) rfl dX7_peek_12 ?_
    refine lv_iload_n hx hb dX7_peek_15 rfl (lv_at hl 1 rfl) ?_
    refine mx_ld S X 8 (N := 24) (mW_8 _ _ _) (j := o) (by omega) (by decide) (x := nI (oV σ o)) (ho2) dX7_peek_16 ?_
    refine lv_istore_n (lv' := [(3, .int (nI (oV σ o))), (0, .ref (ad 0)), (1, .int (nI (o))), (2, .int (field))]) hx hb dX7_peek_17 rfl hl (by decide) rfl (fun ls hl => ?_)
    refine lv_aload_n hx hb dX7_peek_18 rfl (lv_at hl 1 rfl) ?_
    refine lv_aload_n hx hb dX7_peek_19 rfl (lv_at hl 1 rfl) ?_
    refine hx_getL S X (ci := 7) 0 (mW_0 _ _ _) rfl hin7 8 (by decide) (by decide +kernel) rfl dX7_peek_20 ?_
    refine lv_iload_n hx hb dX7_peek_23 rfl (lv_at hl 2 rfl) ?_
    refine mx_ld S X 7 (N := 24) (mW_7 _ _ _) (j := o) (by omega) (by decide) (x := nI (oC σ o)) (ho0) dX7_peek_24 ?_
    refine lv_iconst (v := 2) hx hb dX7_peek_25 (by decide) ?_
    refine lv_iload_n hx hb dX7_peek_26 rfl (lv_at hl 0 rfl) ?_
    refine lv_iadd hx hb dX7_peek_27 ?_
    refine hx_ei (show _ = nI (2 + oV σ o) from nI_add (2) (oV σ o)) ?_
    refine hx_Vi (rest := []) S X (c_X7_of l G ad σ (oC σ o) (2 + oV σ o) (by omega)) gX7_peek_X7_of rfl (n := 2) (by decide +kernel) rfl ⟨(Nat.le_of_ble_eq_true rfl), (Nat.le_of_ble_eq_true rfl)⟩ (hx_recvL (q0 := 0) (ci := 7) X rfl (mW_0 _ _ _)) hl.1 rfl (Nat.le_of_ble_eq_true rfl) dX7_peek_28 ⟨(Nat.le_of_ble_eq_true rfl), (Nat.le_of_ble_eq_true rfl)⟩ (fun r wd1 H locs hp X => ?_)
    obtain ⟨rfl, rfl⟩ := hp
    refine hx_ei (show _ = σ 1 (162 * (oC σ o) + (2 + oV σ o)) from rfl) ?_
    refine lv_iload_n hx hb dX7_peek_31 rfl (lv_at hl 3 rfl) ?_
    refine hx_Si (rest := []) S X (c_X7_has l G _ (σ 1 (162 * (oC σ o) + (2 + oV σ o))) (field)) gX7_peek_X7_has rfl (n := 2) (by decide +kernel) rfl ⟨(Nat.le_of_ble_eq_true rfl), (Nat.le_of_ble_eq_true rfl)⟩ hl.1 rfl (Nat.le_of_ble_eq_true rfl) dX7_peek_32 ⟨(Nat.le_of_ble_eq_true rfl), (Nat.le_of_ble_eq_true rfl)⟩ (fun r wd1 H locs hp X => ?_)
    obtain ⟨hr32, rfl⟩ := hp
    by_cases h32 : hasF (σ 1 (162 * (oC σ o) + (2 + oV σ o))) (field)
    · skip
      refine hx_ei (hr32.1 h32) ?_
      have h32' := h32
      obtain ⟨⟨f, hf, rfl⟩, hbit⟩ := h32
      have hcf : (nI f).toNatClampNeg = f := nI_clamp (by omega)
      refine lv_if_eq (tgt := 52) hx hb dX7_peek_35 (by decide) (fun c9 => absurd c9 (by decide)) (fun _ => ?_)
      refine lv_aload_n hx hb dX7_peek_38 rfl (lv_at hl 1 rfl) ?_
      refine hx_getL S X (ci := 7) 0 (mW_0 _ _ _) rfl hin7 11 (by decide) (by decide +kernel) rfl dX7_peek_39 ?_
      refine lv_iload_n hx hb dX7_peek_42 rfl (lv_at hl 2 rfl) ?_
      refine lv_iload_n hx hb dX7_peek_43 rfl (lv_at hl 0 rfl) ?_
      refine lv_iload_n hx hb dX7_peek_44 rfl (lv_at hl 3 rfl) ?_
      refine hx_Si (rest := [.ref (ad 10)]) S X (c_X7_cell l G _ (o) (oV σ o) (f)) gX7_peek_X7_cell rfl (n := 3) (by decide +kernel) rfl ⟨(Nat.le_of_ble_eq_true rfl), (Nat.le_of_ble_eq_true rfl)⟩ hl.1 rfl (Nat.le_of_ble_eq_true rfl) dX7_peek_45 ⟨(Nat.le_of_ble_eq_true rfl), (Nat.le_of_ble_eq_true rfl)⟩ (fun r wd1 H locs hp X => ?_)
      obtain ⟨rfl, rfl⟩ := hp
      refine mx_ld S X 10 (N := 1536) (mW_10 _ _ _) (j := cel (o) (oV σ o) (f)) (by unfold cel; omega) (by decide) (x := σ 10 (cel (o) (oV σ o) (f))) (rfl) dX7_peek_48 ?_
      refine lv_goto (tgt := 54) hx hb dX7_peek_49 (by decide) ?_
      exact hx_iret S X hr hlk (Nat.le_of_ble_eq_true rfl) (Nat.le_of_ble_eq_true rfl) (by simp [M_peek, wif_t, wif_f, h2', hco, h32', hcf]) dX7_peek_54
    · skip
      refine hx_ei (hr32.2 h32) ?_
      refine lv_if_eq (tgt := 52) hx hb dX7_peek_35 (by decide) (fun _ => ?_) (fun c9 => absurd (by decide) c9)
      refine lv_ldc (v := -2000005) hx hb hown (hts (Cond.constant RX7 86 (-2000005)) (by decide +kernel)) dX7_peek_52 ?_
      exact hx_iret S X hr hlk (Nat.le_of_ble_eq_true rfl) (Nat.le_of_ble_eq_true rfl) (by simp [M_peek, wif_t, wif_f, h2', hco, h32]) dX7_peek_54
  · skip
    refine hx_ei (hr2.2 h2) ?_
    refine lv_if_ne (tgt := 11) hx hb dX7_peek_5 (by decide) (fun c9 => absurd (by decide) c9) (fun _ => ?_)
    refine lv_ldc (v := -2000004) hx hb hown (hts (Cond.constant RX7 124 (-2000004)) (by decide +kernel)) dX7_peek_8 ?_
    exact hx_iret S X hr hlk (Nat.le_of_ble_eq_true rfl) (Nat.le_of_ble_eq_true rfl) (by simp [M_peek, wif_t, wif_f, h2]) dX7_peek_10

set_option maxRecDepth 100000 in
set_option maxHeartbeats 4000000 in
theorem c_X7_pinnedBy (l : Launch) (G : hG) (ad : Nat → Nat) (σ : Sg) (object : Int32) (hI : Inv σ) : hMi l G yX7_pinnedBy wsX7_pinnedBy ({ frames := 2, cells := 0, slots := 0, locals := 43 } : Room) (mW G ad σ) [.ref (ad 0), .int (object)] (fun r w => r = (M_pinnedBy σ object).1 ∧ w = mW G ad (M_pinnedBy σ object).2) := by
  refine hMi.of (cc := cX7_pinnedBy) (maxL := 5) (some .int) RX7 rfl (by decide +kernel) rfl (Nat.le_of_ble_eq_true rfl) ?_
  intro p e s m args below meth c S hr hlk X ls hl
  have hx := S.1
  have hb := S.2.1
  have hown := S.2.2.2.1
  have hts := S.2.2.2.2
  have hl : lv_has ls 5 [(0, .ref (ad 0)), (1, .int (object))] := hl
  have hin7 : ∀ w ∈ wsX70, w ∈ wsX7_pinnedBy := by decide +kernel
  have hC6 : nC σ ≤ 6 := hI.1.2
  have hO24 : nO σ ≤ 24 := hI.2.1.2
  refine lv_aload_n hx hb dX7_pinnedBy_0 rfl (lv_at hl 0 rfl) ?_
  refine lv_iload_n hx hb dX7_pinnedBy_1 rfl (lv_at hl 1 rfl) ?_
  refine hx_Vi (rest := []) S X (c_X7_isObject l G ad σ (object) hI) gX7_pinnedBy_X7_isObject rfl (n := 1) (by decide +kernel) rfl ⟨(Nat.le_of_ble_eq_true rfl), (Nat.le_of_ble_eq_true rfl)⟩ (hx_recvL (q0 := 0) (ci := 7) X rfl (mW_0 _ _ _)) hl.1 rfl (Nat.le_of_ble_eq_true rfl) dX7_pinnedBy_2 ⟨(Nat.le_of_ble_eq_true rfl), (Nat.le_of_ble_eq_true rfl)⟩ (fun r wd1 H locs hp X => ?_)
  obtain ⟨hr2, rfl⟩ := hp
  by_cases h2 : isO σ (object)
  · skip
    refine hx_ei (hr2.1 h2) ?_
    have h2' := h2
    obtain ⟨o, ⟨ho, hex⟩, rfl⟩ := h2
    have hco : (nI o).toNatClampNeg = o := nI_clamp (by omega)
    obtain ⟨⟨ho0, ho1⟩, ⟨ho2, ho3⟩, ⟨ho4, ho5⟩, hov⟩ := (hI.2.2.2.2.2 o ho).2 hex
    have hk8 : cnt σ (oC σ o) ≤ 8 := (hI.2.2.1 _ ho1).1.2.2
    refine lv_if_ne (tgt := 11) hx hb dX7_pinnedBy_5 (by decide) (fun _ => ?_) (fun c9 => absurd c9 (by decide))
    refine lv_ldc (v := -2000016) hx hb hown (hts (Cond.constant RX7 138 (-2000016)) (by decide +kernel)) dX7_pinnedBy_11 ?_
    refine lv_istore_n (lv' := [(2, .int ((-2000016 : Int32))), (0, .ref (ad 0)), (1, .int (nI (o)))]) hx hb dX7_pinnedBy_13 rfl hl (by decide) rfl (fun ls hl => ?_)
    refine lv_iconst (v := 0) hx hb dX7_pinnedBy_14 (by decide) ?_
    refine lv_istore_n (lv' := [(3, .int ((0 : Int32))), (2, .int ((-2000016 : Int32))), (0, .ref (ad 0)), (1, .int (nI (o)))]) hx hb dX7_pinnedBy_15 rfl hl (by decide) rfl (fun ls hl => ?_)
    have loop : ∀ (n i : Nat) (y : Int32), i + n = 32 → y = pbL σ (nI o) i → ∀ (H : Heap) (locs : List Loc) (ls : Array Slot), hH G (va_A (mW G ad σ) s.heap.size) s.heap s (mW G ad σ) H locs → lv_has ls 5 [(0, .ref (ad 0)), (1, .int (nI (o))), (2, .int (y)), (3, .int (nI (i)))] → W p l e ({ frames := 2, cells := 0, slots := 0, locals := 43 } : Room) s m args below meth c H locs 0 0 (MQ below (va_Qi (fun r w => r = (M_pinnedBy σ (nI o)).1 ∧ w = mW G ad (M_pinnedBy σ (nI o)).2) (hB G (va_A (mW G ad σ) s.heap.size)) (va_A (mW G ad σ) s.heap.size)) args s 0 0 (va_A (mW G ad σ) s.heap.size)) (F0 m 16 ls []) := by
      intro n
      induction n with
      | zero =>
        intro i y hi hv H locs ls X hl
        have hi32 : i = 32 := by omega
        refine lv_iload_n hx hb dX7_pinnedBy_16 rfl (lv_at hl 3 rfl) ?_
        refine lv_bipush (v := 32) hx hb dX7_pinnedBy_17 (by decide) ?_
        refine lv_icmp_ge (tgt := 87) hx hb dX7_pinnedBy_19 (by decide) (fun _ => ?_) (fun c9 => absurd (nI_le (a := 32) (b := i) (by omega) (by omega)) c9)
        refine lv_iload_n hx hb dX7_pinnedBy_87 rfl (lv_at hl 2 rfl) ?_
        exact hx_iret S X hr hlk (Nat.le_of_ble_eq_true rfl) (Nat.le_of_ble_eq_true rfl) (by rw [hv, hi32]; simp [M_pinnedBy, wif_t, h2']) dX7_pinnedBy_88
      | succ n ih =>
        intro i y hi hv H locs ls X hl
        have hi32 : i < 32 := by omega
        refine lv_iload_n hx hb dX7_pinnedBy_16 rfl (lv_at hl 3 rfl) ?_
        refine lv_bipush (v := 32) hx hb dX7_pinnedBy_17 (by decide) ?_
        refine lv_icmp_ge (tgt := 87) hx hb dX7_pinnedBy_19 (by decide) (fun c9 => absurd c9 (nI_ge (a := i) (b := 32) (by omega) (by omega))) (fun _ => ?_)
        refine lv_aload_n hx hb dX7_pinnedBy_22 rfl (lv_at hl 0 rfl) ?_
        refine lv_iload_n hx hb dX7_pinnedBy_23 rfl (lv_at hl 3 rfl) ?_
        refine hx_Vi (rest := []) S X (c_X7_isThere l G ad σ (i) hI (by omega)) gX7_pinnedBy_X7_isThere rfl (n := 1) (by decide +kernel) rfl ⟨(Nat.le_of_ble_eq_true rfl), (Nat.le_of_ble_eq_true rfl)⟩ (hx_recvL (q0 := 0) (ci := 7) X rfl (mW_0 _ _ _)) hl.1 rfl (Nat.le_of_ble_eq_true rfl) dX7_pinnedBy_24 ⟨(Nat.le_of_ble_eq_true rfl), (Nat.le_of_ble_eq_true rfl)⟩ (fun r wd1 H locs hp X => ?_)
        obtain ⟨hr24, rfl⟩ := hp
        by_cases h24 : liv σ (i)
        · skip
          refine hx_ei (hr24.1 h24) ?_
          refine lv_if_eq (tgt := 48) hx hb dX7_pinnedBy_27 (by decide) (fun c9 => absurd c9 (by decide)) (fun _ => ?_)
          refine lv_aload_n hx hb dX7_pinnedBy_30 rfl (lv_at hl 0 rfl) ?_
          refine hx_getL S X (ci := 7) 0 (mW_0 _ _ _) rfl hin7 5 (by decide) (by decide +kernel) rfl dX7_pinnedBy_31 ?_
          refine lv_iload_n hx hb dX7_pinnedBy_34 rfl (lv_at hl 3 rfl) ?_
          refine mx_ld S X 5 (N := 32) (mW_5 _ _ _) (j := i) (by omega) (by decide) (x := σ 5 (i)) (rfl) dX7_pinnedBy_35 ?_
          refine lv_iload_n hx hb dX7_pinnedBy_36 rfl (lv_at hl 1 rfl) ?_
          refine lv_ishr hx hb dX7_pinnedBy_37 ?_
          refine lv_iconst (v := 1) hx hb dX7_pinnedBy_38 (by decide) ?_
          refine lv_iand hx hb dX7_pinnedBy_39 ?_
          refine lv_iconst (v := 1) hx hb dX7_pinnedBy_40 (by decide) ?_
          refine lv_icmp_ne (tgt := 48) hx hb dX7_pinnedBy_41 (by decide) (fun c41 => ?_) (fun c41 => ?_)
          · skip
            refine lv_iconst (v := 0) hx hb dX7_pinnedBy_48 (by decide) ?_
            refine lv_istore (lv' := [(4, .int ((0 : Int32))), (0, .ref (ad 0)), (1, .int (nI (o))), (2, .int (y)), (3, .int (nI (i)))]) hx hb dX7_pinnedBy_49 hl (by decide) rfl (fun ls hl => ?_)
            refine lv_iload hx hb dX7_pinnedBy_51 (lv_at hl 0 rfl) ?_
            refine lv_if_eq (tgt := 79) hx hb dX7_pinnedBy_53 (by decide) (fun _ => ?_) (fun c9 => absurd (by decide) c9)
            refine lv_iload_n hx hb dX7_pinnedBy_79 rfl (lv_at hl 3 rfl) ?_
            refine lv_istore_n (lv' := [(2, .int (y)), (4, .int ((0 : Int32))), (0, .ref (ad 0)), (1, .int (nI (o))), (3, .int (nI (i)))]) hx hb dX7_pinnedBy_80 rfl hl (by decide) rfl (fun ls hl => ?_)
            refine lv_iinc (v := nI (i + 1)) (lv' := [(3, .int (nI (i + 1))), (2, .int (y)), (4, .int ((0 : Int32))), (0, .ref (ad 0)), (1, .int (nI (o)))]) hx hb dX7_pinnedBy_81 hl (k := 4) rfl (nI_add (i) 1) (by decide) rfl (fun ls hl => ?_)
            refine lv_goto (tgt := 16) hx hb dX7_pinnedBy_84 (by decide) ?_
            exact ih (i + 1) (y) (by omega) (by rw [pbL, wif_f (fun q => c41 q.1.2)]; exact hv) _ _ _ X (lv_sub hl [3, 4, 1, 0] rfl)
          · skip
            refine lv_iconst (v := 1) hx hb dX7_pinnedBy_44 (by decide) ?_
            refine lv_goto (tgt := 49) hx hb dX7_pinnedBy_45 (by decide) ?_
            refine lv_istore (lv' := [(4, .int ((1 : Int32))), (0, .ref (ad 0)), (1, .int (nI (o))), (2, .int (y)), (3, .int (nI (i)))]) hx hb dX7_pinnedBy_49 hl (by decide) rfl (fun ls hl => ?_)
            refine lv_iload hx hb dX7_pinnedBy_51 (lv_at hl 0 rfl) ?_
            refine lv_if_eq (tgt := 79) hx hb dX7_pinnedBy_53 (by decide) (fun c9 => absurd c9 (by decide)) (fun _ => ?_)
            refine lv_iload_n hx hb dX7_pinnedBy_56 rfl (lv_at hl 3 rfl) ?_
            refine lv_if_lt (tgt := 70) hx hb dX7_pinnedBy_57 (by decide) (fun c57 => ?_) (fun c57 => ?_)
            · skip
              refine lv_aload_n hx hb dX7_pinnedBy_70 rfl (lv_at hl 1 rfl) ?_
              refine hx_getL S X (ci := 7) 0 (mW_0 _ _ _) rfl hin7 4 (by decide) (by decide +kernel) rfl dX7_pinnedBy_71 ?_
              refine lv_iload_n hx hb dX7_pinnedBy_74 rfl (lv_at hl 4 rfl) ?_
              refine mx_ld S X 4 (N := 32) (mW_4 _ _ _) (j := i) (by omega) (by decide) (x := σ 4 (i)) (rfl) dX7_pinnedBy_75 ?_
              refine lv_goto (tgt := 80) hx hb dX7_pinnedBy_76 (by decide) ?_
              refine lv_istore_n (lv' := [(2, .int (σ 4 (i))), (4, .int ((1 : Int32))), (0, .ref (ad 0)), (1, .int (nI (o))), (3, .int (nI (i)))]) hx hb dX7_pinnedBy_80 rfl hl (by decide) rfl (fun ls hl => ?_)
              refine lv_iinc (v := nI (i + 1)) (lv' := [(3, .int (nI (i + 1))), (2, .int (σ 4 (i))), (4, .int ((1 : Int32))), (0, .ref (ad 0)), (1, .int (nI (o)))]) hx hb dX7_pinnedBy_81 hl (k := 4) rfl (nI_add (i) 1) (by decide) rfl (fun ls hl => ?_)
              refine lv_goto (tgt := 16) hx hb dX7_pinnedBy_84 (by decide) ?_
              exact ih (i + 1) (σ 4 (i)) (by omega) (by rw [pbL, wif_t ⟨⟨h24, c41⟩, Or.inl (hv ▸ c57)⟩]) _ _ _ X (lv_sub hl [3, 4, 1, 0] rfl)
            · skip
              refine lv_aload_n hx hb dX7_pinnedBy_60 rfl (lv_at hl 1 rfl) ?_
              refine hx_getL S X (ci := 7) 0 (mW_0 _ _ _) rfl hin7 4 (by decide) (by decide +kernel) rfl dX7_pinnedBy_61 ?_
              refine lv_iload_n hx hb dX7_pinnedBy_64 rfl (lv_at hl 4 rfl) ?_
              refine mx_ld S X 4 (N := 32) (mW_4 _ _ _) (j := i) (by omega) (by decide) (x := σ 4 (i)) (rfl) dX7_pinnedBy_65 ?_
              refine lv_iload_n hx hb dX7_pinnedBy_66 rfl (lv_at hl 3 rfl) ?_
              refine lv_icmp_ge (tgt := 79) hx hb dX7_pinnedBy_67 (by decide) (fun c67 => ?_) (fun c67 => ?_)
              · skip
                refine lv_iload_n hx hb dX7_pinnedBy_79 rfl (lv_at hl 3 rfl) ?_
                refine lv_istore_n (lv' := [(2, .int (y)), (4, .int ((1 : Int32))), (0, .ref (ad 0)), (1, .int (nI (o))), (3, .int (nI (i)))]) hx hb dX7_pinnedBy_80 rfl hl (by decide) rfl (fun ls hl => ?_)
                refine lv_iinc (v := nI (i + 1)) (lv' := [(3, .int (nI (i + 1))), (2, .int (y)), (4, .int ((1 : Int32))), (0, .ref (ad 0)), (1, .int (nI (o)))]) hx hb dX7_pinnedBy_81 hl (k := 4) rfl (nI_add (i) 1) (by decide) rfl (fun ls hl => ?_)
                refine lv_goto (tgt := 16) hx hb dX7_pinnedBy_84 (by decide) ?_
                exact ih (i + 1) (y) (by omega) (by rw [pbL, wif_f (fun q => q.2.elim (fun z => c57 (hv ▸ z)) (fun z => absurd (hv ▸ z) (Int32.not_lt.mpr c67)))]; exact hv) _ _ _ X (lv_sub hl [3, 4, 1, 0] rfl)
              · skip
                refine lv_aload_n hx hb dX7_pinnedBy_70 rfl (lv_at hl 1 rfl) ?_
                refine hx_getL S X (ci := 7) 0 (mW_0 _ _ _) rfl hin7 4 (by decide) (by decide +kernel) rfl dX7_pinnedBy_71 ?_
                refine lv_iload_n hx hb dX7_pinnedBy_74 rfl (lv_at hl 4 rfl) ?_
                refine mx_ld S X 4 (N := 32) (mW_4 _ _ _) (j := i) (by omega) (by decide) (x := σ 4 (i)) (rfl) dX7_pinnedBy_75 ?_
                refine lv_goto (tgt := 80) hx hb dX7_pinnedBy_76 (by decide) ?_
                refine lv_istore_n (lv' := [(2, .int (σ 4 (i))), (4, .int ((1 : Int32))), (0, .ref (ad 0)), (1, .int (nI (o))), (3, .int (nI (i)))]) hx hb dX7_pinnedBy_80 rfl hl (by decide) rfl (fun ls hl => ?_)
                refine lv_iinc (v := nI (i + 1)) (lv' := [(3, .int (nI (i + 1))), (2, .int (σ 4 (i))), (4, .int ((1 : Int32))), (0, .ref (ad 0)), (1, .int (nI (o)))]) hx hb dX7_pinnedBy_81 hl (k := 4) rfl (nI_add (i) 1) (by decide) rfl (fun ls hl => ?_)
                refine lv_goto (tgt := 16) hx hb dX7_pinnedBy_84 (by decide) ?_
                exact ih (i + 1) (σ 4 (i)) (by omega) (by rw [pbL, wif_t ⟨⟨h24, c41⟩, Or.inr (hv ▸ Int32.not_le.mp c67)⟩]) _ _ _ X (lv_sub hl [3, 4, 1, 0] rfl)
        · skip
          refine hx_ei (hr24.2 h24) ?_
          refine lv_if_eq (tgt := 48) hx hb dX7_pinnedBy_27 (by decide) (fun _ => ?_) (fun c9 => absurd (by decide) c9)
          refine lv_iconst (v := 0) hx hb dX7_pinnedBy_48 (by decide) ?_
          refine lv_istore (lv' := [(4, .int ((0 : Int32))), (0, .ref (ad 0)), (1, .int (nI (o))), (2, .int (y)), (3, .int (nI (i)))]) hx hb dX7_pinnedBy_49 hl (by decide) rfl (fun ls hl => ?_)
          refine lv_iload hx hb dX7_pinnedBy_51 (lv_at hl 0 rfl) ?_
          refine lv_if_eq (tgt := 79) hx hb dX7_pinnedBy_53 (by decide) (fun _ => ?_) (fun c9 => absurd (by decide) c9)
          refine lv_iload_n hx hb dX7_pinnedBy_79 rfl (lv_at hl 3 rfl) ?_
          refine lv_istore_n (lv' := [(2, .int (y)), (4, .int ((0 : Int32))), (0, .ref (ad 0)), (1, .int (nI (o))), (3, .int (nI (i)))]) hx hb dX7_pinnedBy_80 rfl hl (by decide) rfl (fun ls hl => ?_)
          refine lv_iinc (v := nI (i + 1)) (lv' := [(3, .int (nI (i + 1))), (2, .int (y)), (4, .int ((0 : Int32))), (0, .ref (ad 0)), (1, .int (nI (o)))]) hx hb dX7_pinnedBy_81 hl (k := 4) rfl (nI_add (i) 1) (by decide) rfl (fun ls hl => ?_)
          refine lv_goto (tgt := 16) hx hb dX7_pinnedBy_84 (by decide) ?_
          exact ih (i + 1) (y) (by omega) (by rw [pbL, wif_f (fun q => h24 q.1.1)]; exact hv) _ _ _ X (lv_sub hl [3, 4, 1, 0] rfl)
    exact loop 32 0 (-2000016) (by omega) rfl _ _ _ X (lv_sub hl [2, 3, 1, 0] rfl)
  · skip
    refine hx_ei (hr2.2 h2) ?_
    refine lv_if_ne (tgt := 11) hx hb dX7_pinnedBy_5 (by decide) (fun c9 => absurd (by decide) c9) (fun _ => ?_)
    refine lv_ldc (v := -2000004) hx hb hown (hts (Cond.constant RX7 124 (-2000004)) (by decide +kernel)) dX7_pinnedBy_8 ?_
    exact hx_iret S X hr hlk (Nat.le_of_ble_eq_true rfl) (Nat.le_of_ble_eq_true rfl) (by simp [M_pinnedBy, wif_f, h2]) dX7_pinnedBy_10

set_option maxRecDepth 100000 in
set_option maxHeartbeats 4000000 in
theorem c_X7_outdated (l : Launch) (G : hG) (ad : Nat → Nat) (σ : Sg) (type : Int32) (hI : Inv σ) : hMi l G yX7_outdated wsX7_outdated ({ frames := 3, cells := 0, slots := 0, locals := 64 } : Room) (mW G ad σ) [.ref (ad 0), .int (type)] (fun r w => r = (M_outdated σ type).1 ∧ w = mW G ad (M_outdated σ type).2) := by
  refine hMi.of (cc := cX7_outdated) (maxL := 4) (some .int) RX7 rfl (by decide +kernel) rfl (Nat.le_of_ble_eq_true rfl) ?_
  intro p e s m args below meth c S hr hlk X ls hl
  have hx := S.1
  have hb := S.2.1
  have hown := S.2.2.2.1
  have hts := S.2.2.2.2
  have hl : lv_has ls 4 [(0, .ref (ad 0)), (1, .int (type))] := hl
  have hin7 : ∀ w ∈ wsX70, w ∈ wsX7_outdated := by decide +kernel
  have hC6 : nC σ ≤ 6 := hI.1.2
  have hO24 : nO σ ≤ 24 := hI.2.1.2
  refine lv_aload_n hx hb dX7_outdated_0 rfl (lv_at hl 0 rfl) ?_
  refine lv_iload_n hx hb dX7_outdated_1 rfl (lv_at hl 1 rfl) ?_
  refine hx_Vi (rest := []) S X (c_X7_isClass l G ad σ (type) hI) gX7_outdated_X7_isClass rfl (n := 1) (by decide +kernel) rfl ⟨(Nat.le_of_ble_eq_true rfl), (Nat.le_of_ble_eq_true rfl)⟩ (hx_recvL (q0 := 0) (ci := 7) X rfl (mW_0 _ _ _)) hl.1 rfl (Nat.le_of_ble_eq_true rfl) dX7_outdated_2 ⟨(Nat.le_of_ble_eq_true rfl), (Nat.le_of_ble_eq_true rfl)⟩ (fun r wd1 H locs hp X => ?_)
  obtain ⟨hr2, rfl⟩ := hp
  by_cases h2 : isC σ (type)
  · skip
    refine hx_ei (hr2.1 h2) ?_
    have h2' := h2
    obtain ⟨t, ht, rfl⟩ := h2
    have hct : (nI t).toNatClampNeg = t := nI_clamp (by omega)
    obtain ⟨⟨hk0, hk1, hk2⟩, hks, hkv⟩ := hI.2.2.1 t ht
    refine lv_if_ne (tgt := 11) hx hb dX7_outdated_5 (by decide) (fun _ => ?_) (fun c9 => absurd c9 (by decide))
    refine lv_iconst (v := 0) hx hb dX7_outdated_11 (by decide) ?_
    refine lv_istore_n (lv' := [(2, .int ((0 : Int32))), (0, .ref (ad 0)), (1, .int (nI (t)))]) hx hb dX7_outdated_12 rfl hl (by decide) rfl (fun ls hl => ?_)
    refine lv_iconst (v := 0) hx hb dX7_outdated_13 (by decide) ?_
    refine lv_istore_n (lv' := [(3, .int ((0 : Int32))), (2, .int ((0 : Int32))), (0, .ref (ad 0)), (1, .int (nI (t)))]) hx hb dX7_outdated_14 rfl hl (by decide) rfl (fun ls hl => ?_)
    have loop : ∀ (n i : Nat) (y : Nat), i + n = nO σ → y = cnp (outP σ (nI t)) i → ∀ (H : Heap) (locs : List Loc) (ls : Array Slot), hH G (va_A (mW G ad σ) s.heap.size) s.heap s (mW G ad σ) H locs → lv_has ls 4 [(0, .ref (ad 0)), (1, .int (nI (t))), (2, .int (nI (y))), (3, .int (nI (i)))] → W p l e ({ frames := 3, cells := 0, slots := 0, locals := 64 } : Room) s m args below meth c H locs 0 0 (MQ below (va_Qi (fun r w => r = (M_outdated σ (nI t)).1 ∧ w = mW G ad (M_outdated σ (nI t)).2) (hB G (va_A (mW G ad σ) s.heap.size)) (va_A (mW G ad σ) s.heap.size)) args s 0 0 (va_A (mW G ad σ) s.heap.size)) (F0 m 15 ls []) := by
      intro n
      induction n with
      | zero =>
        intro i y hi hv H locs ls X hl
        have hin : i = nO σ := by omega
        refine lv_iload_n hx hb dX7_outdated_15 rfl (lv_at hl 3 rfl) ?_
        refine lv_aload_n hx hb dX7_outdated_16 rfl (lv_at hl 0 rfl) ?_
        refine hx_getL S X (ci := 7) 0 (mW_0 _ _ _) rfl hin7 6 (by decide) (by decide +kernel) rfl dX7_outdated_17 ?_
        refine hx_ei (show _ = nI (nO σ) from hI.2.1.1) ?_
        refine lv_icmp_ge (tgt := 70) hx hb dX7_outdated_20 (by decide) (fun _ => ?_) (fun c9 => absurd (nI_le (a := nO σ) (b := i) (by omega) (by omega)) c9)
        refine lv_iload_n hx hb dX7_outdated_70 rfl (lv_at hl 2 rfl) ?_
        exact hx_iret S X hr hlk (Nat.le_of_ble_eq_true rfl) (Nat.le_of_ble_eq_true rfl) (by rw [hv, hin]; simp [M_outdated, wif_t, h2']) dX7_outdated_71
      | succ n ih =>
        intro i y hi hv H locs ls X hl
        have hin : i < nO σ := by omega
        refine lv_iload_n hx hb dX7_outdated_15 rfl (lv_at hl 3 rfl) ?_
        refine lv_aload_n hx hb dX7_outdated_16 rfl (lv_at hl 0 rfl) ?_
        refine hx_getL S X (ci := 7) 0 (mW_0 _ _ _) rfl hin7 6 (by decide) (by decide +kernel) rfl dX7_outdated_17 ?_
        refine hx_ei (show _ = nI (nO σ) from hI.2.1.1) ?_
        refine lv_icmp_ge (tgt := 70) hx hb dX7_outdated_20 (by decide) (fun c9 => absurd c9 (nI_ge (a := i) (b := nO σ) (by omega) (by omega))) (fun _ => ?_)
        refine lv_iload_n hx hb dX7_outdated_23 rfl (lv_at hl 2 rfl) ?_
        refine lv_aload_n hx hb dX7_outdated_24 rfl (lv_at hl 0 rfl) ?_
        refine hx_getL S X (ci := 7) 0 (mW_0 _ _ _) rfl hin7 7 (by decide) (by decide +kernel) rfl dX7_outdated_25 ?_
        refine lv_iload_n hx hb dX7_outdated_28 rfl (lv_at hl 3 rfl) ?_
        refine mx_zld S X (j := i) (by omega) (x := σ 6 (i)) (rfl) dX7_outdated_29 ?_
        refine lv_if_eq (tgt := 61) hx hb dX7_outdated_30 (by decide) (fun c30 => ?_) (fun c30 => ?_)
        · skip
          refine lv_iconst (v := 0) hx hb dX7_outdated_61 (by decide) ?_
          refine lv_iadd hx hb dX7_outdated_62 ?_
          refine hx_ei (show _ = nI (y + 0) from nI_add (y) (0)) ?_
          refine lv_istore_n (lv' := [(2, .int (nI (y + 0))), (0, .ref (ad 0)), (1, .int (nI (t))), (3, .int (nI (i)))]) hx hb dX7_outdated_63 rfl hl (by decide) rfl (fun ls hl => ?_)
          refine lv_iinc (v := nI (i + 1)) (lv' := [(3, .int (nI (i + 1))), (2, .int (nI (y + 0))), (0, .ref (ad 0)), (1, .int (nI (t)))]) hx hb dX7_outdated_64 hl (k := 3) rfl (nI_add (i) 1) (by decide) rfl (fun ls hl => ?_)
          refine lv_goto (tgt := 15) hx hb dX7_outdated_67 (by decide) ?_
          exact ih (i + 1) (y + 0) (by omega) (by rw [hv, Nat.add_zero, cnp_f (fun q => q.1 c30)]) _ _ _ X (lv_sub hl [2, 3, 1, 0] rfl)
        · skip
          refine lv_aload_n hx hb dX7_outdated_33 rfl (lv_at hl 0 rfl) ?_
          refine hx_getL S X (ci := 7) 0 (mW_0 _ _ _) rfl hin7 8 (by decide) (by decide +kernel) rfl dX7_outdated_34 ?_
          refine lv_iload_n hx hb dX7_outdated_37 rfl (lv_at hl 3 rfl) ?_
          refine mx_ld S X 7 (N := 24) (mW_7 _ _ _) (j := i) (by omega) (by decide) (x := σ 7 (i)) (rfl) dX7_outdated_38 ?_
          refine lv_iload_n hx hb dX7_outdated_39 rfl (lv_at hl 1 rfl) ?_
          refine lv_icmp_ne (tgt := 61) hx hb dX7_outdated_40 (by decide) (fun c40 => ?_) (fun c40 => ?_)
          · skip
            refine lv_iconst (v := 0) hx hb dX7_outdated_61 (by decide) ?_
            refine lv_iadd hx hb dX7_outdated_62 ?_
            refine hx_ei (show _ = nI (y + 0) from nI_add (y) (0)) ?_
            refine lv_istore_n (lv' := [(2, .int (nI (y + 0))), (0, .ref (ad 0)), (1, .int (nI (t))), (3, .int (nI (i)))]) hx hb dX7_outdated_63 rfl hl (by decide) rfl (fun ls hl => ?_)
            refine lv_iinc (v := nI (i + 1)) (lv' := [(3, .int (nI (i + 1))), (2, .int (nI (y + 0))), (0, .ref (ad 0)), (1, .int (nI (t)))]) hx hb dX7_outdated_64 hl (k := 3) rfl (nI_add (i) 1) (by decide) rfl (fun ls hl => ?_)
            refine lv_goto (tgt := 15) hx hb dX7_outdated_67 (by decide) ?_
            exact ih (i + 1) (y + 0) (by omega) (by rw [hv, Nat.add_zero, cnp_f (fun q => c40 q.2.1)]) _ _ _ X (lv_sub hl [2, 3, 1, 0] rfl)
          · skip
            refine lv_aload_n hx hb dX7_outdated_43 rfl (lv_at hl 0 rfl) ?_
            refine hx_getL S X (ci := 7) 0 (mW_0 _ _ _) rfl hin7 9 (by decide) (by decide +kernel) rfl dX7_outdated_44 ?_
            refine lv_iload_n hx hb dX7_outdated_47 rfl (lv_at hl 3 rfl) ?_
            refine mx_ld S X 8 (N := 24) (mW_8 _ _ _) (j := i) (by omega) (by decide) (x := σ 8 (i)) (rfl) dX7_outdated_48 ?_
            refine lv_aload_n hx hb dX7_outdated_49 rfl (lv_at hl 0 rfl) ?_
            refine lv_iload_n hx hb dX7_outdated_50 rfl (lv_at hl 1 rfl) ?_
            refine hx_Vi (rest := [.int (σ 8 (i)), .int (nI (y))]) S X (c_X7_current l G ad σ (t) (by omega)) gX7_outdated_X7_current rfl (n := 1) (by decide +kernel) rfl ⟨(Nat.le_of_ble_eq_true rfl), (Nat.le_of_ble_eq_true rfl)⟩ (hx_recvL (q0 := 0) (ci := 7) X rfl (mW_0 _ _ _)) hl.1 rfl (Nat.le_of_ble_eq_true rfl) dX7_outdated_51 ⟨(Nat.le_of_ble_eq_true rfl), (Nat.le_of_ble_eq_true rfl)⟩ (fun r wd1 H locs hp X => ?_)
            obtain ⟨rfl, rfl⟩ := hp
            refine hx_ei (show _ = nI (cnt σ t) - 1 from by rw [show σ 1 (162 * t + 0) = nI (cnt σ t) from hk0]) ?_
            refine lv_icmp_eq (tgt := 61) hx hb dX7_outdated_54 (by decide) (fun c54 => ?_) (fun c54 => ?_)
            · skip
              refine lv_iconst (v := 0) hx hb dX7_outdated_61 (by decide) ?_
              refine lv_iadd hx hb dX7_outdated_62 ?_
              refine hx_ei (show _ = nI (y + 0) from nI_add (y) (0)) ?_
              refine lv_istore_n (lv' := [(2, .int (nI (y + 0))), (0, .ref (ad 0)), (1, .int (nI (t))), (3, .int (nI (i)))]) hx hb dX7_outdated_63 rfl hl (by decide) rfl (fun ls hl => ?_)
              refine lv_iinc (v := nI (i + 1)) (lv' := [(3, .int (nI (i + 1))), (2, .int (nI (y + 0))), (0, .ref (ad 0)), (1, .int (nI (t)))]) hx hb dX7_outdated_64 hl (k := 3) rfl (nI_add (i) 1) (by decide) rfl (fun ls hl => ?_)
              refine lv_goto (tgt := 15) hx hb dX7_outdated_67 (by decide) ?_
              exact ih (i + 1) (y + 0) (by omega) (by rw [hv, Nat.add_zero, cnp_f (fun q => q.2.2 (by rw [show cN (nI t) = t from hct]; exact c54))]) _ _ _ X (lv_sub hl [2, 3, 1, 0] rfl)
            · skip
              refine lv_iconst (v := 1) hx hb dX7_outdated_57 (by decide) ?_
              refine lv_goto (tgt := 62) hx hb dX7_outdated_58 (by decide) ?_
              refine lv_iadd hx hb dX7_outdated_62 ?_
              refine hx_ei (show _ = nI (y + 1) from nI_add (y) (1)) ?_
              refine lv_istore_n (lv' := [(2, .int (nI (y + 1))), (0, .ref (ad 0)), (1, .int (nI (t))), (3, .int (nI (i)))]) hx hb dX7_outdated_63 rfl hl (by decide) rfl (fun ls hl => ?_)
              refine lv_iinc (v := nI (i + 1)) (lv' := [(3, .int (nI (i + 1))), (2, .int (nI (y + 1))), (0, .ref (ad 0)), (1, .int (nI (t)))]) hx hb dX7_outdated_64 hl (k := 3) rfl (nI_add (i) 1) (by decide) rfl (fun ls hl => ?_)
              refine lv_goto (tgt := 15) hx hb dX7_outdated_67 (by decide) ?_
              exact ih (i + 1) (y + 1) (by omega) (by rw [hv, cnp_t ⟨c30, c40, by rw [show cN (nI t) = t from hct]; exact c54⟩]) _ _ _ X (lv_sub hl [2, 3, 1, 0] rfl)
    exact loop (nO σ) 0 0 (by omega) rfl _ _ _ X (lv_sub hl [2, 3, 1, 0] rfl)
  · skip
    refine hx_ei (hr2.2 h2) ?_
    refine lv_if_ne (tgt := 11) hx hb dX7_outdated_5 (by decide) (fun c9 => absurd (by decide) c9) (fun _ => ?_)
    refine lv_ldc (v := -2000001) hx hb hown (hts (Cond.constant RX7 66 (-2000001)) (by decide +kernel)) dX7_outdated_8 ?_
    exact hx_iret S X hr hlk (Nat.le_of_ble_eq_true rfl) (Nat.le_of_ble_eq_true rfl) (by simp [M_outdated, wif_f, h2]) dX7_outdated_10
end
section
set_option maxRecDepth 100000 in
set_option maxHeartbeats 4000000 in
theorem c_X7_create (l : Launch) (G : hG) (ad : Nat → Nat) (σ : Sg) (thread : Int32) (hI : Inv σ) : hMi l G yX7_create wsX7_create ({ frames := 2, cells := 0, slots := 0, locals := 42 } : Room) (mW G ad σ) [.ref (ad 0), .int (thread)] (fun r w => r = (M_create σ thread).1 ∧ w = mW G ad (M_create σ thread).2) := by
  refine hMi.of (cc := cX7_create) (maxL := 5) (some .int) RX7 rfl (by decide +kernel) rfl (Nat.le_of_ble_eq_true rfl) ?_
  intro p e s m args below meth c S hr hlk X ls hl
  have hx := S.1
  have hb := S.2.1
  have hown := S.2.2.2.1
  have hts := S.2.2.2.2
  have hl : lv_has ls 5 [(0, .ref (ad 0)), (1, .int (thread))] := hl
  have hin7 : ∀ w ∈ wsX70, w ∈ wsX7_create := by decide +kernel
  have hC6 : nC σ ≤ 6 := hI.1.2
  have hO24 : nO σ ≤ 24 := hI.2.1.2
  refine lv_iload_n hx hb dX7_create_0 rfl (lv_at hl 1 rfl) ?_
  refine hx_Si (rest := []) S X (c_X7_isThread l G _ (thread)) gX7_create_X7_isThread rfl (n := 1) (by decide +kernel) rfl ⟨(Nat.le_of_ble_eq_true rfl), (Nat.le_of_ble_eq_true rfl)⟩ hl.1 rfl (Nat.le_of_ble_eq_true rfl) dX7_create_1 ⟨(Nat.le_of_ble_eq_true rfl), (Nat.le_of_ble_eq_true rfl)⟩ (fun r wd1 H locs hp X => ?_)
  obtain ⟨hr1, rfl⟩ := hp
  by_cases h1 : isT (thread)
  · skip
    refine hx_ei (hr1.1 h1) ?_
    have h1' := h1
    obtain ⟨th, hth, rfl⟩ := h1
    have hcth : (nI th).toNatClampNeg = th := nI_clamp (by omega)
    obtain ⟨hd0, hd8⟩ := hI.2.2.2.1 th hth
    refine lv_if_ne (tgt := 10) hx hb dX7_create_4 (by decide) (fun _ => ?_) (fun c9 => absurd c9 (by decide))
    refine lv_aload_n hx hb dX7_create_10 rfl (lv_at hl 0 rfl) ?_
    refine hx_getL S X (ci := 7) 0 (mW_0 _ _ _) rfl hin7 2 (by decide) (by decide +kernel) rfl dX7_create_11 ?_
    refine lv_iload_n hx hb dX7_create_14 rfl (lv_at hl 1 rfl) ?_
    refine mx_ld S X 2 (N := 4) (mW_2 _ _ _) (j := th) (by omega) (by decide) (x := nI (dN σ th)) (hd0) dX7_create_15 ?_
    refine lv_if_ne (tgt := 22) hx hb dX7_create_16 (by decide) (fun c16 => ?_) (fun c16 => ?_)
    · skip
      have c16 := (not_congr (nI_eq (a := dN σ th) (b := 0) (by omega) (by omega))).mp c16
      refine lv_aload_n hx hb dX7_create_22 rfl (lv_at hl 0 rfl) ?_
      refine hx_getL S X (ci := 7) 0 (mW_0 _ _ _) rfl hin7 6 (by decide) (by decide +kernel) rfl dX7_create_23 ?_
      refine hx_ei (show _ = nI (nO σ) from hI.2.1.1) ?_
      refine lv_bipush (v := 24) hx hb dX7_create_26 (by decide) ?_
      refine lv_icmp_ne (tgt := 34) hx hb dX7_create_28 (by decide) (fun c28 => ?_) (fun c28 => ?_)
      · skip
        have c28 := (not_congr (nI_eq (a := nO σ) (b := 24) (by omega) (by omega))).mp c28
        have hfr : topF σ th < 32 := topF_lt hth hd8
        obtain ⟨⟨g1, g2⟩, ⟨g3, g4⟩, g5⟩ := hI.2.2.2.2.1 (topF σ th) hfr (topF_liv c16 hd8)
        have gk8 : cnt σ (fC σ (topF σ th)) ≤ 8 := (hI.2.2.1 _ g2).1.2.2
        refine lv_bipush (v := 8) hx hb dX7_create_34 (by decide) ?_
        refine lv_iload_n hx hb dX7_create_36 rfl (lv_at hl 1 rfl) ?_
        refine lv_imul hx hb dX7_create_37 ?_
        refine hx_ei (show _ = nI ((8) * (th)) from pk_mul (8) (th)) ?_
        refine lv_aload_n hx hb dX7_create_38 rfl (lv_at hl 0 rfl) ?_
        refine hx_getL S X (ci := 7) 0 (mW_0 _ _ _) rfl hin7 2 (by decide) (by decide +kernel) rfl dX7_create_39 ?_
        refine lv_iload_n hx hb dX7_create_42 rfl (lv_at hl 1 rfl) ?_
        refine mx_ld S X 2 (N := 4) (mW_2 _ _ _) (j := th) (by omega) (by decide) (x := nI (dN σ th)) (hd0) dX7_create_43 ?_
        refine lv_iadd hx hb dX7_create_44 ?_
        refine hx_ei (show _ = nI ((8) * (th) + dN σ th) from nI_add ((8) * (th)) (dN σ th)) ?_
        refine lv_iconst (v := 1) hx hb dX7_create_45 (by decide) ?_
        refine lv_isub hx hb dX7_create_46 ?_
        refine hx_ei (show _ = nI (topF σ th) from by rw [show (1 : Int32) = nI 1 from rfl, pk_sub (a := 8 * th + dN σ th) (b := 1) (by omega)]; congr 1; unfold topF; omega) ?_
        refine lv_istore_n (lv' := [(2, .int (nI (topF σ th))), (0, .ref (ad 0)), (1, .int (nI (th)))]) hx hb dX7_create_47 rfl hl (by decide) rfl (fun ls hl => ?_)
        refine lv_aload_n hx hb dX7_create_48 rfl (lv_at hl 1 rfl) ?_
        refine hx_getL S X (ci := 7) 0 (mW_0 _ _ _) rfl hin7 6 (by decide) (by decide +kernel) rfl dX7_create_49 ?_
        refine hx_ei (show _ = nI (nO σ) from hI.2.1.1) ?_
        refine lv_istore_n (lv' := [(3, .int (nI (nO σ))), (2, .int (nI (topF σ th))), (0, .ref (ad 0)), (1, .int (nI (th)))]) hx hb dX7_create_52 rfl hl (by decide) rfl (fun ls hl => ?_)
        refine lv_aload_n hx hb dX7_create_53 rfl (lv_at hl 2 rfl) ?_
        refine lv_dup hx hb dX7_create_54 rfl ?_
        refine hx_getL S X (ci := 7) 0 (mW_0 _ _ _) rfl hin7 6 (by decide) (by decide +kernel) rfl dX7_create_55 ?_
        refine hx_ei (show _ = nI (nO σ) from hI.2.1.1) ?_
        refine lv_iconst (v := 1) hx hb dX7_create_58 (by decide) ?_
        refine lv_iadd hx hb dX7_create_59 ?_
        refine hx_ei (show _ = nI (nO σ + 1) from nI_add (nO σ) (1)) ?_
        refine hx_putL S X (ci := 7) tyX7_ok nmX7 0 (mW_0 _ _ _) rfl hin7 6 (by decide) (by decide +kernel) rfl rfl rfl (Nat.le_of_ble_eq_true rfl) dX7_create_60 (wd' := mW G ad (mS σ 0 1 (nI (nO σ + 1)))) (mW_po _ _ _ _) (fun H locs X => ?_)
        refine lv_aload_n hx hb dX7_create_63 rfl (lv_at hl 2 rfl) ?_
        refine hx_getL S X (ci := 7) 0 (mW_0 _ _ _) rfl hin7 7 (by decide) (by decide +kernel) rfl dX7_create_64 ?_
        refine lv_iload_n hx hb dX7_create_67 rfl (lv_at hl 0 rfl) ?_
        refine lv_iconst (v := 1) hx hb dX7_create_68 (by decide) ?_
        refine mx_zst S X (j := nO σ) (by omega) (x := (1 : Int32)) (by decide) dX7_create_69 (fun H locs X => ?_)
        refine lv_aload_n hx hb dX7_create_70 rfl (lv_at hl 2 rfl) ?_
        refine hx_getL S X (ci := 7) 0 (mW_0 _ _ _) rfl hin7 8 (by decide) (by decide +kernel) rfl dX7_create_71 ?_
        refine lv_iload_n hx hb dX7_create_74 rfl (lv_at hl 0 rfl) ?_
        refine lv_aload_n hx hb dX7_create_75 rfl (lv_at hl 2 rfl) ?_
        refine hx_getL S X (ci := 7) 0 (mW_0 _ _ _) rfl hin7 3 (by decide) (by decide +kernel) rfl dX7_create_76 ?_
        refine lv_iload_n hx hb dX7_create_79 rfl (lv_at hl 1 rfl) ?_
        refine mx_ld S X 3 (N := 32) (mW_3 _ _ _) (j := topF σ th) (by omega) (by decide) (x := nI (fC σ (topF σ th))) (by rw [mS_nk _ _ _ _ (by decide), mS_nk _ _ _ _ (by decide)]; exact g1) dX7_create_80 ?_
        refine mx_st S X 7 (N := 24) (mW_7 _ _ _) (j := nO σ) (by omega) (by decide) (x := nI (fC σ (topF σ th))) dX7_create_81 (mW_s7 _ _ _ _ _) (fun H locs X => ?_)
        refine lv_aload_n hx hb dX7_create_82 rfl (lv_at hl 2 rfl) ?_
        refine hx_getL S X (ci := 7) 0 (mW_0 _ _ _) rfl hin7 9 (by decide) (by decide +kernel) rfl dX7_create_83 ?_
        refine lv_iload_n hx hb dX7_create_86 rfl (lv_at hl 0 rfl) ?_
        refine lv_aload_n hx hb dX7_create_87 rfl (lv_at hl 2 rfl) ?_
        refine hx_getL S X (ci := 7) 0 (mW_0 _ _ _) rfl hin7 4 (by decide) (by decide +kernel) rfl dX7_create_88 ?_
        refine lv_iload_n hx hb dX7_create_91 rfl (lv_at hl 1 rfl) ?_
        refine mx_ld S X 4 (N := 32) (mW_4 _ _ _) (j := topF σ th) (by omega) (by decide) (x := nI (fV σ (topF σ th))) (by rw [mS_nk _ _ _ _ (by decide), mS_nk _ _ _ _ (by decide), mS_nk _ _ _ _ (by decide)]; exact g3) dX7_create_92 ?_
        refine mx_st S X 8 (N := 24) (mW_8 _ _ _) (j := nO σ) (by omega) (by decide) (x := nI (fV σ (topF σ th))) dX7_create_93 (mW_s8 _ _ _ _ _) (fun H locs X => ?_)
        refine lv_aload_n hx hb dX7_create_94 rfl (lv_at hl 2 rfl) ?_
        refine hx_getL S X (ci := 7) 0 (mW_0 _ _ _) rfl hin7 10 (by decide) (by decide +kernel) rfl dX7_create_95 ?_
        refine lv_iload_n hx hb dX7_create_98 rfl (lv_at hl 0 rfl) ?_
        refine lv_aload_n hx hb dX7_create_99 rfl (lv_at hl 2 rfl) ?_
        refine hx_getL S X (ci := 7) 0 (mW_0 _ _ _) rfl hin7 4 (by decide) (by decide +kernel) rfl dX7_create_100 ?_
        refine lv_iload_n hx hb dX7_create_103 rfl (lv_at hl 1 rfl) ?_
        refine mx_ld S X 4 (N := 32) (mW_4 _ _ _) (j := topF σ th) (by omega) (by decide) (x := nI (fV σ (topF σ th))) (by rw [mS_nk _ _ _ _ (by decide), mS_nk _ _ _ _ (by decide), mS_nk _ _ _ _ (by decide), mS_nk _ _ _ _ (by decide)]; exact g3) dX7_create_104 ?_
        refine mx_st S X 9 (N := 24) (mW_9 _ _ _) (j := nO σ) (by omega) (by decide) (x := nI (fV σ (topF σ th))) dX7_create_105 (mW_s9 _ _ _ _ _) (fun H locs X => ?_)
        refine lv_iconst (v := 0) hx hb dX7_create_106 (by decide) ?_
        refine lv_istore (lv' := [(4, .int ((0 : Int32))), (3, .int (nI (nO σ))), (2, .int (nI (topF σ th))), (0, .ref (ad 0)), (1, .int (nI (th)))]) hx hb dX7_create_107 hl (by decide) rfl (fun ls hl => ?_)
        have loop : ∀ (n i : Nat) , i + n = 8 → True → ∀ (H : Heap) (locs : List Loc) (ls : Array Slot), hH G (va_A (mW G ad σ) s.heap.size) s.heap s (mW G ad (crL σ (topF σ th) (nO σ) i)) H locs → lv_has ls 5 [(0, .ref (ad 0)), (2, .int (nI (topF σ th))), (3, .int (nI (nO σ))), (4, .int (nI (i)))] → W p l e ({ frames := 2, cells := 0, slots := 0, locals := 42 } : Room) s m args below meth c H locs 0 0 (MQ below (va_Qi (fun r w => r = (M_create σ (nI th)).1 ∧ w = mW G ad (M_create σ (nI th)).2) (hB G (va_A (mW G ad σ) s.heap.size)) (va_A (mW G ad σ) s.heap.size)) args s 0 0 (va_A (mW G ad σ) s.heap.size)) (F0 m 109 ls []) := by
          intro n
          induction n with
          | zero =>
            intro i  hi hv H locs ls X hl
            have hin : i = 8 := by omega
            refine lv_iload hx hb dX7_create_109 (lv_at hl 3 rfl) ?_
            refine lv_bipush (v := 8) hx hb dX7_create_111 (by decide) ?_
            refine lv_icmp_ge (tgt := 140) hx hb dX7_create_113 (by decide) (fun _ => ?_) (fun c9 => absurd (nI_le (a := 8) (b := i) (by omega) (by omega)) c9)
            refine lv_aload_n hx hb dX7_create_140 rfl (lv_at hl 0 rfl) ?_
            refine hx_getL S X (ci := 7) 0 (mW_0 _ _ _) rfl hin7 5 (by decide) (by decide +kernel) rfl dX7_create_141 ?_
            refine lv_iload_n hx hb dX7_create_144 rfl (lv_at hl 1 rfl) ?_
            refine lv_dup2_11 hx hb dX7_create_145 rfl rfl ?_
            refine mx_ld S X 5 (N := 32) (mW_5 _ _ _) (j := topF σ th) (by omega) (by decide) (x := σ 5 (topF σ th)) (by rw [crL_k i (by decide), crS, mS_nk _ _ _ _ (by decide), mS_nk _ _ _ _ (by decide), mS_nk _ _ _ _ (by decide), mS_nk _ _ _ _ (by decide), mS_nk _ _ _ _ (by decide)]) dX7_create_146 ?_
            refine lv_iconst (v := 1) hx hb dX7_create_147 (by decide) ?_
            refine lv_iload_n hx hb dX7_create_148 rfl (lv_at hl 2 rfl) ?_
            refine lv_ishl hx hb dX7_create_149 ?_
            refine lv_ior hx hb dX7_create_150 ?_
            refine mx_st S X 5 (N := 32) (mW_5 _ _ _) (j := topF σ th) (by omega) (by decide) (x := (σ 5 (topF σ th)) ||| (((1 : Int32)) <<< ((nI (nO σ)) &&& 31))) dX7_create_151 (mW_s5 _ _ _ _ _) (fun H locs X => ?_)
            refine lv_iload_n hx hb dX7_create_152 rfl (lv_at hl 2 rfl) ?_
            exact hx_iret S X hr hlk (Nat.le_of_ble_eq_true rfl) (Nat.le_of_ble_eq_true rfl) (by rw [hin]; simp [M_create, wif_t, wif_f, h1', hcth, c16, c28]) dX7_create_153
          | succ n ih =>
            intro i  hi hv H locs ls X hl
            have hin : i < 8 := by omega
            refine lv_iload hx hb dX7_create_109 (lv_at hl 3 rfl) ?_
            refine lv_bipush (v := 8) hx hb dX7_create_111 (by decide) ?_
            refine lv_icmp_ge (tgt := 140) hx hb dX7_create_113 (by decide) (fun c9 => absurd c9 (nI_ge (a := i) (b := 8) (by omega) (by omega))) (fun _ => ?_)
            refine lv_aload_n hx hb dX7_create_116 rfl (lv_at hl 0 rfl) ?_
            refine hx_getL S X (ci := 7) 0 (mW_0 _ _ _) rfl hin7 11 (by decide) (by decide +kernel) rfl dX7_create_117 ?_
            refine lv_iload_n hx hb dX7_create_120 rfl (lv_at hl 2 rfl) ?_
            refine lv_aload_n hx hb dX7_create_121 rfl (lv_at hl 0 rfl) ?_
            refine hx_getL S X (ci := 7) 0 (mW_0 _ _ _) rfl hin7 9 (by decide) (by decide +kernel) rfl dX7_create_122 ?_
            refine lv_iload_n hx hb dX7_create_125 rfl (lv_at hl 2 rfl) ?_
            refine mx_ld S X 8 (N := 24) (mW_8 _ _ _) (j := nO σ) (by omega) (by decide) (x := nI (fV σ (topF σ th))) (by rw [crL_k i (by decide), crS, mS_nk _ _ _ _ (by decide), mS_eq]) dX7_create_126 ?_
            refine lv_iload hx hb dX7_create_127 (lv_at hl 3 rfl) ?_
            refine hx_Si (rest := [.ref (ad 10)]) S X (c_X7_cell l G _ (nO σ) (fV σ (topF σ th)) (i)) gX7_create_X7_cell rfl (n := 3) (by decide +kernel) rfl ⟨(Nat.le_of_ble_eq_true rfl), (Nat.le_of_ble_eq_true rfl)⟩ hl.1 rfl (Nat.le_of_ble_eq_true rfl) dX7_create_129 ⟨(Nat.le_of_ble_eq_true rfl), (Nat.le_of_ble_eq_true rfl)⟩ (fun r wd1 H locs hp X => ?_)
            obtain ⟨rfl, rfl⟩ := hp
            refine lv_iconst (v := 0) hx hb dX7_create_132 (by decide) ?_
            refine mx_st S X 10 (N := 1536) (mW_10 _ _ _) (j := cel (nO σ) (fV σ (topF σ th)) (i)) (by unfold cel; omega) (by decide) (x := (0 : Int32)) dX7_create_133 (mW_s10 _ _ _ _ _) (fun H locs X => ?_)
            refine lv_iinc (v := nI (i + 1)) (lv' := [(4, .int (nI (i + 1))), (0, .ref (ad 0)), (2, .int (nI (topF σ th))), (3, .int (nI (nO σ)))]) hx hb dX7_create_134 hl (k := 3) rfl (nI_add (i) 1) (by decide) rfl (fun ls hl => ?_)
            refine lv_goto (tgt := 109) hx hb dX7_create_137 (by decide) ?_
            exact ih (i + 1) (by omega) trivial _ _ _ X (lv_sub hl [1, 2, 3, 0] rfl)
        exact loop 8 0 (by omega) trivial _ _ _ X (lv_sub hl [3, 2, 1, 0] rfl)
      · skip
        have c28 := (nI_eq (a := nO σ) (b := 24) (by omega) (by omega)).mp c28
        refine lv_ldc (v := -2000010) hx hb hown (hts (Cond.constant RX7 57 (-2000010)) (by decide +kernel)) dX7_create_31 ?_
        exact hx_iret S X hr hlk (Nat.le_of_ble_eq_true rfl) (Nat.le_of_ble_eq_true rfl) (by simp [M_create, wif_t, wif_f, h1', hcth, c16, c28]) dX7_create_33
    · skip
      have c16 := (nI_eq (a := dN σ th) (b := 0) (by omega) (by omega)).mp c16
      refine lv_ldc (v := -2000006) hx hb hown (hts (Cond.constant RX7 107 (-2000006)) (by decide +kernel)) dX7_create_19 ?_
      exact hx_iret S X hr hlk (Nat.le_of_ble_eq_true rfl) (Nat.le_of_ble_eq_true rfl) (by simp [M_create, wif_t, wif_f, h1', hcth, c16]) dX7_create_21
  · skip
    refine hx_ei (hr1.2 h1) ?_
    refine lv_if_ne (tgt := 10) hx hb dX7_create_4 (by decide) (fun c9 => absurd (by decide) c9) (fun _ => ?_)
    refine lv_ldc (v := -2000003) hx hb hown (hts (Cond.constant RX7 106 (-2000003)) (by decide +kernel)) dX7_create_7 ?_
    exact hx_iret S X hr hlk (Nat.le_of_ble_eq_true rfl) (Nat.le_of_ble_eq_true rfl) (by simp [M_create, wif_t, wif_f, h1]) dX7_create_9
end
