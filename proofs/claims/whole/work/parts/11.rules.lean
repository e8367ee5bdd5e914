section PRT
variable {cc : ByteArray} {own : String} {nL fr lo pc : Nat} {ls : List (Option pm_v)} {st : List pm_v} {mem : pm_M} {X : Nat → List (Option pm_v) → List pm_v → pm_M → Prop}
theorem pr_iconst {n : Int} (v : Int32) (q : Nat) (hd : decode cc pc = .ok (.iconst n, 1)) (hv : Int32.ofInt n = v) (hq : pc + 1 = q) (k : PR cc own nL fr lo q ls (pI v :: st) mem X) : PR cc own nL fr lo pc ls st mem X := by
  subst hq
  refine PR.step1 (fun H locs la hC hl hs hH hS kk => ?_) k
  exact lv_iconst hC.1 hC.2.1 hd hv (kk la hl ⟨trivial, hs⟩)
theorem pr_bipush {n : Int} (v : Int32) (q : Nat) (hd : decode cc pc = .ok (.bipush n, 2)) (hv : (Int8.ofInt n).toInt32 = v) (hq : pc + 2 = q) (k : PR cc own nL fr lo q ls (pI v :: st) mem X) : PR cc own nL fr lo pc ls st mem X := by
  subst hq
  refine PR.step1 (fun H locs la hC hl hs hH hS kk => ?_) k
  exact lv_bipush hC.1 hC.2.1 hd hv (kk la hl ⟨trivial, hs⟩)
theorem pr_sipush {n : Int} (v : Int32) (q : Nat) (hd : decode cc pc = .ok (.sipush n, 3)) (hv : (Int16.ofInt n).toInt32 = v) (hq : pc + 3 = q) (k : PR cc own nL fr lo q ls (pI v :: st) mem X) : PR cc own nL fr lo pc ls st mem X := by
  subst hq
  refine PR.step1 (fun H locs la hC hl hs hH hS kk => ?_) k
  exact lv_sipush hC.1 hC.2.1 hd hv (kk la hl ⟨trivial, hs⟩)
theorem pr_lconst {n : Fin 2} (v : Int64) (q : Nat) (hd : decode cc pc = .ok (.lconst n, 1)) (hv : Int64.ofNat (n : Nat) = v) (hq : pc + 1 = q) (k : PR cc own nL fr lo q ls (pJ v :: st) mem X) : PR cc own nL fr lo pc ls st mem X := by
  subst hq
  refine PR.step1 (fun H locs la hC hl hs hH hS kk => ?_) k
  exact lv_lconst hC.1 hC.2.1 hd hv (kk la hl ⟨trivial, hs⟩)
theorem pr_ldc2 {idx : Nat} (v : Int64) (q : Nat) (hd : decode cc pc = .ok (.ldc2_w idx, 3)) (hw : Cond.constantLong own idx v ∈ lw_tbl) (hq : pc + 3 = q) (k : PR cc own nL fr lo q ls (pJ v :: st) mem X) : PR cc own nL fr lo pc ls st mem X := by
  subst hq
  refine PR.step1 (fun H locs la hC hl hs hH hS kk => ?_) k
  exact lv_ldc2 hC.1 hC.2.1 hC.2.2.2.1 (pm_word hC.2.2.2.2.1 hC.2.2.2.2.2.1 _ rfl hw) hd (kk la hl ⟨trivial, hs⟩)
theorem pr_iload_n {k4 : Fin 4} {i : Nat} {x : Int32} (q : Nat) (hd : decode cc pc = .ok (.iload_n k4, 1)) (hi : (k4 : Nat) = i) (hx : ls[i]? = some (some (pI x))) (hq : pc + 1 = q) (k : PR cc own nL fr lo q ls (pI x :: st) mem X) : PR cc own nL fr lo pc ls st mem X := by
  subst hq
  refine PR.step1 (fun H locs la hC hl hs hH hS kk => ?_) k
  exact lv_iload_n hC.1 hC.2.1 hd hi (hl.2.2.2 _ _ hx).1 (kk la hl ⟨trivial, hs⟩)
theorem pr_iload {i : Nat} {x : Int32} (q : Nat) (hd : decode cc pc = .ok (.iload i, 2)) (hx : ls[i]? = some (some (pI x))) (hq : pc + 2 = q) (k : PR cc own nL fr lo q ls (pI x :: st) mem X) : PR cc own nL fr lo pc ls st mem X := by
  subst hq
  refine PR.step1 (fun H locs la hC hl hs hH hS kk => ?_) k
  exact lv_iload hC.1 hC.2.1 hd (hl.2.2.2 _ _ hx).1 (kk la hl ⟨trivial, hs⟩)
theorem pr_lload_n {k4 : Fin 4} {i : Nat} {x : Int64} (q : Nat) (hd : decode cc pc = .ok (.lload_n k4, 1)) (hi : (k4 : Nat) = i) (hx : ls[i]? = some (some (pJ x))) (hq : pc + 1 = q) (k : PR cc own nL fr lo q ls (pJ x :: st) mem X) : PR cc own nL fr lo pc ls st mem X := by
  subst hq
  refine PR.step1 (fun H locs la hC hl hs hH hS kk => ?_) k
  exact lv_lload_n hC.1 hC.2.1 hd hi (hl.2.2.2 _ _ hx).1 (kk la hl ⟨trivial, hs⟩)
theorem pr_lload {i : Nat} {x : Int64} (q : Nat) (hd : decode cc pc = .ok (.lload i, 2)) (hx : ls[i]? = some (some (pJ x))) (hq : pc + 2 = q) (k : PR cc own nL fr lo q ls (pJ x :: st) mem X) : PR cc own nL fr lo pc ls st mem X := by
  subst hq
  refine PR.step1 (fun H locs la hC hl hs hH hS kk => ?_) k
  exact lv_lload hC.1 hC.2.1 hd (hl.2.2.2 _ _ hx).1 (kk la hl ⟨trivial, hs⟩)
theorem pr_aload_n {k4 : Fin 4} {i t j : Nat} (q : Nat) (hd : decode cc pc = .ok (.aload_n k4, 1)) (hi : (k4 : Nat) = i) (hx : ls[i]? = some (some (pR t j))) (hq : pc + 1 = q) (k : PR cc own nL fr lo q ls (pR t j :: st) mem X) : PR cc own nL fr lo pc ls st mem X := by
  subst hq
  refine PR.step1 (fun H locs la hC hl hs hH hS kk => ?_) k
  exact lv_aload_n hC.1 hC.2.1 hd hi (hl.2.2.2 _ _ hx).1 (kk la hl ⟨(hl.2.2.2 _ _ hx).2, hs⟩)
theorem pr_aload {i t j : Nat} (q : Nat) (hd : decode cc pc = .ok (.aload i, 2)) (hx : ls[i]? = some (some (pR t j))) (hq : pc + 2 = q) (k : PR cc own nL fr lo q ls (pR t j :: st) mem X) : PR cc own nL fr lo pc ls st mem X := by
  subst hq
  refine PR.step1 (fun H locs la hC hl hs hH hS kk => ?_) k
  exact lv_aload hC.1 hC.2.1 hd (hl.2.2.2 _ _ hx).1 (kk la hl ⟨(hl.2.2.2 _ _ hx).2, hs⟩)
theorem pr_iadd {x y : Int32} (q : Nat) (hd : decode cc pc = .ok (.iadd, 1)) (hq : pc + 1 = q) (k : PR cc own nL fr lo q ls (pI (x + y) :: st) mem X) : PR cc own nL fr lo pc ls (pI y :: pI x :: st) mem X := by
  subst hq
  refine PR.step1 (fun H locs la hC hl hs hH hS kk => ?_) k
  exact lv_iadd hC.1 hC.2.1 hd (kk la hl ⟨trivial, hs.2.2⟩)
theorem pr_isub {x y : Int32} (q : Nat) (hd : decode cc pc = .ok (.isub, 1)) (hq : pc + 1 = q) (k : PR cc own nL fr lo q ls (pI (x - y) :: st) mem X) : PR cc own nL fr lo pc ls (pI y :: pI x :: st) mem X := by
  subst hq
  refine PR.step1 (fun H locs la hC hl hs hH hS kk => ?_) k
  exact lv_isub hC.1 hC.2.1 hd (kk la hl ⟨trivial, hs.2.2⟩)
theorem pr_imul {x y : Int32} (q : Nat) (hd : decode cc pc = .ok (.imul, 1)) (hq : pc + 1 = q) (k : PR cc own nL fr lo q ls (pI (x * y) :: st) mem X) : PR cc own nL fr lo pc ls (pI y :: pI x :: st) mem X := by
  subst hq
  refine PR.step1 (fun H locs la hC hl hs hH hS kk => ?_) k
  exact lv_imul hC.1 hC.2.1 hd (kk la hl ⟨trivial, hs.2.2⟩)
theorem pr_iand {x y : Int32} (q : Nat) (hd : decode cc pc = .ok (.iand, 1)) (hq : pc + 1 = q) (k : PR cc own nL fr lo q ls (pI (x &&& y) :: st) mem X) : PR cc own nL fr lo pc ls (pI y :: pI x :: st) mem X := by
  subst hq
  refine PR.step1 (fun H locs la hC hl hs hH hS kk => ?_) k
  exact lv_iand hC.1 hC.2.1 hd (kk la hl ⟨trivial, hs.2.2⟩)
theorem pr_ior {x y : Int32} (q : Nat) (hd : decode cc pc = .ok (.ior, 1)) (hq : pc + 1 = q) (k : PR cc own nL fr lo q ls (pI (x ||| y) :: st) mem X) : PR cc own nL fr lo pc ls (pI y :: pI x :: st) mem X := by
  subst hq
  refine PR.step1 (fun H locs la hC hl hs hH hS kk => ?_) k
  exact lv_ior hC.1 hC.2.1 hd (kk la hl ⟨trivial, hs.2.2⟩)
theorem pr_ixor {x y : Int32} (q : Nat) (hd : decode cc pc = .ok (.ixor, 1)) (hq : pc + 1 = q) (k : PR cc own nL fr lo q ls (pI (x ^^^ y) :: st) mem X) : PR cc own nL fr lo pc ls (pI y :: pI x :: st) mem X := by
  subst hq
  refine PR.step1 (fun H locs la hC hl hs hH hS kk => ?_) k
  exact lv_ixor hC.1 hC.2.1 hd (kk la hl ⟨trivial, hs.2.2⟩)
theorem pr_ishl {x y : Int32} (q : Nat) (hd : decode cc pc = .ok (.ishl, 1)) (hq : pc + 1 = q) (k : PR cc own nL fr lo q ls (pI (x <<< (y &&& 31)) :: st) mem X) : PR cc own nL fr lo pc ls (pI y :: pI x :: st) mem X := by
  subst hq
  refine PR.step1 (fun H locs la hC hl hs hH hS kk => ?_) k
  exact lv_ishl hC.1 hC.2.1 hd (kk la hl ⟨trivial, hs.2.2⟩)
theorem pr_ishr {x y : Int32} (q : Nat) (hd : decode cc pc = .ok (.ishr, 1)) (hq : pc + 1 = q) (k : PR cc own nL fr lo q ls (pI (x >>> (y &&& 31)) :: st) mem X) : PR cc own nL fr lo pc ls (pI y :: pI x :: st) mem X := by
  subst hq
  refine PR.step1 (fun H locs la hC hl hs hH hS kk => ?_) k
  exact lv_ishr hC.1 hC.2.1 hd (kk la hl ⟨trivial, hs.2.2⟩)
theorem pr_iushr {x y : Int32} (q : Nat) (hd : decode cc pc = .ok (.iushr, 1)) (hq : pc + 1 = q) (k : PR cc own nL fr lo q ls (pI ((x.toUInt32 >>> (y.toUInt32 &&& Int32.toUInt32 31)).toInt32) :: st) mem X) : PR cc own nL fr lo pc ls (pI y :: pI x :: st) mem X := by
  subst hq
  refine PR.step1 (fun H locs la hC hl hs hH hS kk => ?_) k
  exact lv_iushr hC.1 hC.2.1 hd rfl (kk la hl ⟨trivial, hs.2.2⟩)
theorem pr_idiv {x y : Int32} (hne : ¬ y = 0) (q : Nat) (hd : decode cc pc = .ok (.idiv, 1)) (hq : pc + 1 = q) (k : PR cc own nL fr lo q ls (pI (x / y) :: st) mem X) : PR cc own nL fr lo pc ls (pI y :: pI x :: st) mem X := by
  subst hq
  refine PR.step1 (fun H locs la hC hl hs hH hS kk => ?_) k
  exact lv_idiv hC.1 hC.2.1 hd hne (kk la hl ⟨trivial, hs.2.2⟩)
theorem pr_irem {x y : Int32} (hne : ¬ y = 0) (q : Nat) (hd : decode cc pc = .ok (.irem, 1)) (hq : pc + 1 = q) (k : PR cc own nL fr lo q ls (pI (x - x / y * y) :: st) mem X) : PR cc own nL fr lo pc ls (pI y :: pI x :: st) mem X := by
  subst hq
  refine PR.step1 (fun H locs la hC hl hs hH hS kk => ?_) k
  exact lv_irem hC.1 hC.2.1 hd hne (kk la hl ⟨trivial, hs.2.2⟩)
theorem pr_ineg {x : Int32} (q : Nat) (hd : decode cc pc = .ok (.ineg, 1)) (hq : pc + 1 = q) (k : PR cc own nL fr lo q ls (pI (-x) :: st) mem X) : PR cc own nL fr lo pc ls (pI x :: st) mem X := by
  subst hq
  refine PR.step1 (fun H locs la hC hl hs hH hS kk => ?_) k
  exact lv_ineg hC.1 hC.2.1 hd (kk la hl ⟨trivial, hs.2⟩)
theorem pr_ladd {x y : Int64} (q : Nat) (hd : decode cc pc = .ok (.ladd, 1)) (hq : pc + 1 = q) (k : PR cc own nL fr lo q ls (pJ (x + y) :: st) mem X) : PR cc own nL fr lo pc ls (pJ y :: pJ x :: st) mem X := by
  subst hq
  refine PR.step1 (fun H locs la hC hl hs hH hS kk => ?_) k
  exact lv_ladd hC.1 hC.2.1 hd (kk la hl ⟨trivial, hs.2.2⟩)
theorem pr_lsub {x y : Int64} (q : Nat) (hd : decode cc pc = .ok (.lsub, 1)) (hq : pc + 1 = q) (k : PR cc own nL fr lo q ls (pJ (x - y) :: st) mem X) : PR cc own nL fr lo pc ls (pJ y :: pJ x :: st) mem X := by
  subst hq
  refine PR.step1 (fun H locs la hC hl hs hH hS kk => ?_) k
  exact lv_lsub hC.1 hC.2.1 hd (kk la hl ⟨trivial, hs.2.2⟩)
theorem pr_lmul {x y : Int64} (q : Nat) (hd : decode cc pc = .ok (.lmul, 1)) (hq : pc + 1 = q) (k : PR cc own nL fr lo q ls (pJ (x * y) :: st) mem X) : PR cc own nL fr lo pc ls (pJ y :: pJ x :: st) mem X := by
  subst hq
  refine PR.step1 (fun H locs la hC hl hs hH hS kk => ?_) k
  exact lv_lmul hC.1 hC.2.1 hd (kk la hl ⟨trivial, hs.2.2⟩)
theorem pr_ldiv {x y : Int64} (hne : ¬ y = 0) (q : Nat) (hd : decode cc pc = .ok (.ldiv, 1)) (hq : pc + 1 = q) (k : PR cc own nL fr lo q ls (pJ (x / y) :: st) mem X) : PR cc own nL fr lo pc ls (pJ y :: pJ x :: st) mem X := by
  subst hq
  refine PR.step1 (fun H locs la hC hl hs hH hS kk => ?_) k
  exact lv_ldiv hC.1 hC.2.1 hd hne (kk la hl ⟨trivial, hs.2.2⟩)
theorem pr_lrem {x y : Int64} (hne : ¬ y = 0) (q : Nat) (hd : decode cc pc = .ok (.lrem, 1)) (hq : pc + 1 = q) (k : PR cc own nL fr lo q ls (pJ (x - x / y * y) :: st) mem X) : PR cc own nL fr lo pc ls (pJ y :: pJ x :: st) mem X := by
  subst hq
  refine PR.step1 (fun H locs la hC hl hs hH hS kk => ?_) k
  exact lv_lrem hC.1 hC.2.1 hd hne (kk la hl ⟨trivial, hs.2.2⟩)
theorem pr_lcmp {x y : Int64} (q : Nat) (hd : decode cc pc = .ok (.lcmp, 1)) (hq : pc + 1 = q) (k : PR cc own nL fr lo q ls (pI (lg_cmp x y) :: st) mem X) : PR cc own nL fr lo pc ls (pJ y :: pJ x :: st) mem X := by
  subst hq
  refine PR.step1 (fun H locs la hC hl hs hH hS kk => ?_) k
  exact W.lcmp hC.1 hC.2.1 hd (kk la hl ⟨trivial, hs.2.2⟩)
theorem pr_i2l {x : Int32} (q : Nat) (hd : decode cc pc = .ok (.i2l, 1)) (hq : pc + 1 = q) (k : PR cc own nL fr lo q ls (pJ x.toInt64 :: st) mem X) : PR cc own nL fr lo pc ls (pI x :: st) mem X := by
  subst hq
  refine PR.step1 (fun H locs la hC hl hs hH hS kk => ?_) k
  exact lv_i2l hC.1 hC.2.1 hd rfl (kk la hl ⟨trivial, hs.2⟩)
theorem pr_l2i {x : Int64} (q : Nat) (hd : decode cc pc = .ok (.l2i, 1)) (hq : pc + 1 = q) (k : PR cc own nL fr lo q ls (pI x.toInt32 :: st) mem X) : PR cc own nL fr lo pc ls (pJ x :: st) mem X := by
  subst hq
  refine PR.step1 (fun H locs la hC hl hs hH hS kk => ?_) k
  exact lv_l2i hC.1 hC.2.1 hd rfl (kk la hl ⟨trivial, hs.2⟩)
theorem pr_i2c {x : Int32} (q : Nat) (hd : decode cc pc = .ok (.i2c, 1)) (hq : pc + 1 = q) (k : PR cc own nL fr lo q ls (pI (x.toUInt32 % 65536).toInt32 :: st) mem X) : PR cc own nL fr lo pc ls (pI x :: st) mem X := by
  subst hq
  refine PR.step1 (fun H locs la hC hl hs hH hS kk => ?_) k
  exact lv_i2c hC.1 hC.2.1 hd rfl (kk la hl ⟨trivial, hs.2⟩)
theorem pr_i2b {x : Int32} (q : Nat) (hd : decode cc pc = .ok (.i2b, 1)) (hq : pc + 1 = q) (k : PR cc own nL fr lo q ls (pI x.toInt8.toInt32 :: st) mem X) : PR cc own nL fr lo pc ls (pI x :: st) mem X := by
  subst hq
  refine PR.step1 (fun H locs la hC hl hs hH hS kk => ?_) k
  exact lv_i2b hC.1 hC.2.1 hd rfl (kk la hl ⟨trivial, hs.2⟩)
theorem pr_dup {v : pm_v} (hv : pm_cat v = 1) (q : Nat) (hd : decode cc pc = .ok (.dup, 1)) (hq : pc + 1 = q) (k : PR cc own nL fr lo q ls (v :: v :: st) mem X) : PR cc own nL fr lo pc ls (v :: st) mem X := by
  subst hq
  refine PR.step1 (fun H locs la hC hl hs hH hS kk => ?_) k
  exact lv_dup hC.1 hC.2.1 hd (by rw [pm_mv_cat]; exact hv) (kk la hl ⟨hs.1, hs⟩)
theorem pr_pop {v : pm_v} (hv : pm_cat v = 1) (q : Nat) (hd : decode cc pc = .ok (.pop, 1)) (hq : pc + 1 = q) (k : PR cc own nL fr lo q ls (st) mem X) : PR cc own nL fr lo pc ls (v :: st) mem X := by
  subst hq
  refine PR.step1 (fun H locs la hC hl hs hH hS kk => ?_) k
  exact lv_pop hC.1 hC.2.1 hd (by rw [pm_mv_cat]; exact hv) (kk la hl hs.2)
theorem pr_dup2 {u v : pm_v} (hu : pm_cat u = 1) (hv : pm_cat v = 1) (q : Nat) (hd : decode cc pc = .ok (.dup2, 1)) (hq : pc + 1 = q) (k : PR cc own nL fr lo q ls (u :: v :: u :: v :: st) mem X) : PR cc own nL fr lo pc ls (u :: v :: st) mem X := by
  subst hq
  refine PR.step1 (fun H locs la hC hl hs hH hS kk => ?_) k
  exact lv_dup2_11 hC.1 hC.2.1 hd (by rw [pm_mv_cat]; exact hu) (by rw [pm_mv_cat]; exact hv) (kk la hl ⟨hs.1, hs.2.1, hs⟩)
theorem pr_dup2l {x : Int64} (q : Nat) (hd : decode cc pc = .ok (.dup2, 1)) (hq : pc + 1 = q) (k : PR cc own nL fr lo q ls (pJ x :: pJ x :: st) mem X) : PR cc own nL fr lo pc ls (pJ x :: st) mem X := by
  subst hq
  refine PR.step1 (fun H locs la hC hl hs hH hS kk => ?_) k
  exact lv_dup2_2 hC.1 hC.2.1 hd rfl (kk la hl ⟨trivial, hs⟩)
theorem pr_goto {off : Int} (q : Nat) (hd : decode cc pc = .ok (.goto off, 3)) (hq : (pc : Int) + off = (q : Int)) (k : PR cc own nL fr lo q ls st mem X) : PR cc own nL fr lo pc ls st mem X := by
  refine PR.step1 (fun H locs la hC hl hs hH hS kk => ?_) k
  exact lv_goto hC.1 hC.2.1 hd hq (kk la hl hs)
theorem PR.branch {q t : Nat} {st' : List pm_v} {C : Prop}
    (h : ∀ {p : Program} {l : Launch} {e : Env} {R : Room} {s : State} {m : MethodId} {args : Array Value} {below : List Frame} {meth : Method} {c : Code} {cells slots : Nat} {Q : State → Prop} {S0 : State} {a0 : Array Value} {ad : pm_A} {D : va_G} {cs : Nat → ClassId} (H : Heap) (locs : List Loc) (la : Array Slot),
      pm_C cc own nL fr lo p l R s m c cells slots S0 a0 ad D cs → pm_oks st →
      (C → pm_oks st' → W p l e R s m args below meth c H locs cells slots Q (F0 m t la (st'.map (pm_mv ad)))) → (¬ C → pm_oks st' → W p l e R s m args below meth c H locs cells slots Q (F0 m q la (st'.map (pm_mv ad)))) → W p l e R s m args below meth c H locs cells slots Q (F0 m pc la (st.map (pm_mv ad))))
    (kt : C → PR cc own nL fr lo t ls st' mem X) (kf : ¬ C → PR cc own nL fr lo q ls st' mem X) : PR cc own nL fr lo pc ls st mem X := by
  intro p l e R s m args below meth c cells slots Q S0 a0 ad D cs hC hK H locs la hl hs hH hS
  exact h H locs la hC hs (fun hc hs' => kt hc p l e R s m args below meth c cells slots Q S0 a0 ad D cs hC hK H locs la hl hs' hH hS) (fun hc hs' => kf hc p l e R s m args below meth c cells slots Q S0 a0 ad D cs hC hK H locs la hl hs' hH hS)
theorem pr_if_eq {x : Int32} {off : Int} (t q : Nat) (hd : decode cc pc = .ok (.ifCond .eq off, 3)) (ht : (pc : Int) + off = (t : Int)) (hq : pc + 3 = q) (kt : x = 0 → PR cc own nL fr lo t ls st mem X) (kf : ¬ (x = 0) → PR cc own nL fr lo q ls st mem X) : PR cc own nL fr lo pc ls (pI x :: st) mem X := by
  subst hq
  exact PR.branch (fun H locs la hC hs k1 k2 => lv_if_eq hC.1 hC.2.1 hd ht (fun hc => k1 hc hs.2) (fun hc => k2 hc hs.2)) kt kf
theorem pr_icmp_eq {x y : Int32} {off : Int} (t q : Nat) (hd : decode cc pc = .ok (.if_icmp .eq off, 3)) (ht : (pc : Int) + off = (t : Int)) (hq : pc + 3 = q) (kt : x = y → PR cc own nL fr lo t ls st mem X) (kf : ¬ (x = y) → PR cc own nL fr lo q ls st mem X) : PR cc own nL fr lo pc ls (pI y :: pI x :: st) mem X := by
  subst hq
  exact PR.branch (fun H locs la hC hs k1 k2 => lv_icmp_eq hC.1 hC.2.1 hd ht (fun hc => k1 hc hs.2.2) (fun hc => k2 hc hs.2.2)) kt kf
theorem pr_if_ne {x : Int32} {off : Int} (t q : Nat) (hd : decode cc pc = .ok (.ifCond .ne off, 3)) (ht : (pc : Int) + off = (t : Int)) (hq : pc + 3 = q) (kt : ¬ x = 0 → PR cc own nL fr lo t ls st mem X) (kf : x = 0 → PR cc own nL fr lo q ls st mem X) : PR cc own nL fr lo pc ls (pI x :: st) mem X := by
  subst hq
  exact PR.branch (fun H locs la hC hs k1 k2 => lv_if_ne hC.1 hC.2.1 hd ht (fun hc => k1 hc hs.2) (fun hc => k2 (fun z => z hc) hs.2)) kt (fun hc => kf (Decidable.not_not.mp hc))
theorem pr_icmp_ne {x y : Int32} {off : Int} (t q : Nat) (hd : decode cc pc = .ok (.if_icmp .ne off, 3)) (ht : (pc : Int) + off = (t : Int)) (hq : pc + 3 = q) (kt : ¬ x = y → PR cc own nL fr lo t ls st mem X) (kf : x = y → PR cc own nL fr lo q ls st mem X) : PR cc own nL fr lo pc ls (pI y :: pI x :: st) mem X := by
  subst hq
  exact PR.branch (fun H locs la hC hs k1 k2 => lv_icmp_ne hC.1 hC.2.1 hd ht (fun hc => k1 hc hs.2.2) (fun hc => k2 (fun z => z hc) hs.2.2)) kt (fun hc => kf (Decidable.not_not.mp hc))
theorem pr_if_lt {x : Int32} {off : Int} (t q : Nat) (hd : decode cc pc = .ok (.ifCond .lt off, 3)) (ht : (pc : Int) + off = (t : Int)) (hq : pc + 3 = q) (kt : x < 0 → PR cc own nL fr lo t ls st mem X) (kf : ¬ (x < 0) → PR cc own nL fr lo q ls st mem X) : PR cc own nL fr lo pc ls (pI x :: st) mem X := by
  subst hq
  exact PR.branch (fun H locs la hC hs k1 k2 => lv_if_lt hC.1 hC.2.1 hd ht (fun hc => k1 hc hs.2) (fun hc => k2 hc hs.2)) kt kf
theorem pr_icmp_lt {x y : Int32} {off : Int} (t q : Nat) (hd : decode cc pc = .ok (.if_icmp .lt off, 3)) (ht : (pc : Int) + off = (t : Int)) (hq : pc + 3 = q) (kt : x < y → PR cc own nL fr lo t ls st mem X) (kf : ¬ (x < y) → PR cc own nL fr lo q ls st mem X) : PR cc own nL fr lo pc ls (pI y :: pI x :: st) mem X := by
  subst hq
  exact PR.branch (fun H locs la hC hs k1 k2 => lv_icmp_lt hC.1 hC.2.1 hd ht (fun hc => k1 hc hs.2.2) (fun hc => k2 hc hs.2.2)) kt kf
theorem pr_if_ge {x : Int32} {off : Int} (t q : Nat) (hd : decode cc pc = .ok (.ifCond .ge off, 3)) (ht : (pc : Int) + off = (t : Int)) (hq : pc + 3 = q) (kt : 0 ≤ x → PR cc own nL fr lo t ls st mem X) (kf : ¬ (0 ≤ x) → PR cc own nL fr lo q ls st mem X) : PR cc own nL fr lo pc ls (pI x :: st) mem X := by
  subst hq
  exact PR.branch (fun H locs la hC hs k1 k2 => lv_if_ge hC.1 hC.2.1 hd ht (fun hc => k1 hc hs.2) (fun hc => k2 hc hs.2)) kt kf
theorem pr_icmp_ge {x y : Int32} {off : Int} (t q : Nat) (hd : decode cc pc = .ok (.if_icmp .ge off, 3)) (ht : (pc : Int) + off = (t : Int)) (hq : pc + 3 = q) (kt : y ≤ x → PR cc own nL fr lo t ls st mem X) (kf : ¬ (y ≤ x) → PR cc own nL fr lo q ls st mem X) : PR cc own nL fr lo pc ls (pI y :: pI x :: st) mem X := by
  subst hq
  exact PR.branch (fun H locs la hC hs k1 k2 => lv_icmp_ge hC.1 hC.2.1 hd ht (fun hc => k1 hc hs.2.2) (fun hc => k2 hc hs.2.2)) kt kf
theorem pr_if_gt {x : Int32} {off : Int} (t q : Nat) (hd : decode cc pc = .ok (.ifCond .gt off, 3)) (ht : (pc : Int) + off = (t : Int)) (hq : pc + 3 = q) (kt : 0 < x → PR cc own nL fr lo t ls st mem X) (kf : ¬ (0 < x) → PR cc own nL fr lo q ls st mem X) : PR cc own nL fr lo pc ls (pI x :: st) mem X := by
  subst hq
  exact PR.branch (fun H locs la hC hs k1 k2 => lv_if_gt hC.1 hC.2.1 hd ht (fun hc => k1 hc hs.2) (fun hc => k2 hc hs.2)) kt kf
theorem pr_icmp_gt {x y : Int32} {off : Int} (t q : Nat) (hd : decode cc pc = .ok (.if_icmp .gt off, 3)) (ht : (pc : Int) + off = (t : Int)) (hq : pc + 3 = q) (kt : y < x → PR cc own nL fr lo t ls st mem X) (kf : ¬ (y < x) → PR cc own nL fr lo q ls st mem X) : PR cc own nL fr lo pc ls (pI y :: pI x :: st) mem X := by
  subst hq
  exact PR.branch (fun H locs la hC hs k1 k2 => lv_icmp_gt hC.1 hC.2.1 hd ht (fun hc => k1 hc hs.2.2) (fun hc => k2 hc hs.2.2)) kt kf
theorem pr_if_le {x : Int32} {off : Int} (t q : Nat) (hd : decode cc pc = .ok (.ifCond .le off, 3)) (ht : (pc : Int) + off = (t : Int)) (hq : pc + 3 = q) (kt : x ≤ 0 → PR cc own nL fr lo t ls st mem X) (kf : ¬ (x ≤ 0) → PR cc own nL fr lo q ls st mem X) : PR cc own nL fr lo pc ls (pI x :: st) mem X := by
  subst hq
  exact PR.branch (fun H locs la hC hs k1 k2 => lv_if_le hC.1 hC.2.1 hd ht (fun hc => k1 hc hs.2) (fun hc => k2 hc hs.2)) kt kf
theorem pr_icmp_le {x y : Int32} {off : Int} (t q : Nat) (hd : decode cc pc = .ok (.if_icmp .le off, 3)) (ht : (pc : Int) + off = (t : Int)) (hq : pc + 3 = q) (kt : x ≤ y → PR cc own nL fr lo t ls st mem X) (kf : ¬ (x ≤ y) → PR cc own nL fr lo q ls st mem X) : PR cc own nL fr lo pc ls (pI y :: pI x :: st) mem X := by
  subst hq
  exact PR.branch (fun H locs la hC hs k1 k2 => lv_icmp_le hC.1 hC.2.1 hd ht (fun hc => k1 hc hs.2.2) (fun hc => k2 hc hs.2.2)) kt kf
theorem pr_table {dflt l0 hi : Int} {offs : Array Int} {len : Nat} {x : Int32} (q : Nat) (hd : decode cc pc = .ok (.tableswitch dflt l0 hi offs, len)) (hx : ((x.toInt < l0 ∨ hi < x.toInt) ∧ (pc : Int) + dflt = (q : Int)) ∨ (¬ x.toInt < l0 ∧ ¬ hi < x.toInt ∧ ∃ off, offs[(x.toInt - l0).toNat]? = some off ∧ (pc : Int) + off = (q : Int))) (kk : PR cc own nL fr lo q ls st mem X) : PR cc own nL fr lo pc ls (pI x :: st) mem X := by
  refine PR.step1 (fun H locs la hC hl hs hH hS kk => ?_) kk
  rcases hx with ⟨h1, h2⟩ | ⟨h1, h2, off, h3, h4⟩
  · exact lv_tableOut hC.1 hC.2.1 hd h1 h2 (kk la hl hs.2)
  · exact lv_tableIn hC.1 hC.2.1 hd h1 h2 h3 h4 (kk la hl hs.2)
theorem pr_lookup {dflt : Int} {ps : Array (Int × Int)} {len : Nat} {x : Int32} {off : Int} (q : Nat) (hd : decode cc pc = .ok (.lookupswitch dflt ps, len)) (hp : (ps.toList.zip (ps.toList.drop 1)).all (fun (a, next) => a.1 < next.1) = true) (ho : Op.lookupswitch.offset ps.toList dflt x.toInt = off) (ht : (pc : Int) + off = (q : Int)) (kk : PR cc own nL fr lo q ls st mem X) : PR cc own nL fr lo pc ls (pI x :: st) mem X := by
  refine PR.step1 (fun H locs la hC hl hs hH hS kk => ?_) kk
  exact lv_lookup hC.1 hC.2.1 hd hp ho ht (kk la hl hs.2)
def pm_al (ad : pm_A) (ls : List (Option pm_v)) : List (Nat × Value) := (List.range ls.length).filterMap (fun k => (ls[k]?).bind (fun o => o.map (fun v => (k, pm_mv ad v))))
theorem pm_al_in {ad : pm_A} {ls : List (Option pm_v)} {k : Nat} {v : pm_v} (h : ls[k]? = some (some v)) : (k, pm_mv ad v) ∈ pm_al ad ls := by
  have hk : k < ls.length := (List.getElem?_eq_some_iff.mp h).1
  refine List.mem_filterMap.mpr ⟨k, List.mem_range.mpr hk, ?_⟩
  rw [h]; rfl
theorem pm_L.has {ad : pm_A} {nL : Nat} {la : Array Slot} (h : pm_L ad nL la ls) : lv_has la nL (pm_al ad ls) := by
  refine ⟨h.1, h.2.1, fun q hq => ?_⟩
  obtain ⟨k, -, hk⟩ := List.mem_filterMap.mp hq
  obtain ⟨o, ho, hk⟩ := Option.bind_eq_some_iff.mp hk
  obtain ⟨v, hv, hk2⟩ := Option.map_eq_some_iff.mp hk
  subst hv
  rw [← hk2]
  exact (h.2.2.2 k v ho).1
/-- what holds of the locals behind a store -/
def pm_st (ls ls' : List (Option pm_v)) (i : Nat) (v : pm_v) : Prop := ls'.length = ls.length ∧ i + pm_cat v ≤ ls.length ∧ ∀ (k : Nat) (u : pm_v), ls'[k]? = some (some u) → (k = i ∧ u = v) ∨ (¬ k = i ∧ ¬ (pm_cat v = 2 ∧ k = i + 1) ∧ ¬ (k + 1 = i ∧ pm_cat u = 2) ∧ ls[k]? = some (some u))
theorem pm_st.to1 {ls' : List (Option pm_v)} {i : Nat} {v : pm_v} (h : pm_st ls ls' i v) (hv : pm_cat v = 1) (hok : pm_ok v) {ad : pm_A} {nL : Nat} {la la' : Array Slot} (hl : pm_L ad nL la ls) (hla : lv_has la' nL ((i, pm_mv ad v) :: (pm_al ad ls).filter (fun q => !(q.1 == i) && !(q.1 + 1 == i && q.2.category == 2)))) : pm_L ad nL la' ls' := by
  refine ⟨hla.1, hla.2.1, h.1.trans hl.2.2.1, fun k u hk => ?_⟩
  rcases h.2.2 k u hk with ⟨e1, e2⟩ | ⟨e1, -, e3, e4⟩
  · subst e1; subst e2
    exact ⟨hla.2.2 _ List.mem_cons_self, hok⟩
  · refine ⟨hla.2.2 (k, pm_mv ad u) (List.mem_cons_of_mem _ (List.mem_filter.mpr ⟨pm_al_in e4, ?_⟩)), (hl.2.2.2 k u e4).2⟩
    simp only [pm_mv_cat]
    by_cases e5 : k + 1 = i
    · have : ¬ pm_cat u = 2 := fun z => e3 ⟨e5, z⟩
      simp [e1, this]
    · simp [e1, e5]
theorem pm_st.to2 {ls' : List (Option pm_v)} {i : Nat} {v : pm_v} (h : pm_st ls ls' i v) (hv : pm_cat v = 2) (hok : pm_ok v) {ad : pm_A} {nL : Nat} {la la' : Array Slot} (hl : pm_L ad nL la ls) (hla : lv_has la' nL ((i, pm_mv ad v) :: (pm_al ad ls).filter (fun q => !(q.1 == i) && (!(q.1 == i + 1) && !(q.1 + 1 == i && q.2.category == 2))))) : pm_L ad nL la' ls' := by
  refine ⟨hla.1, hla.2.1, h.1.trans hl.2.2.1, fun k u hk => ?_⟩
  rcases h.2.2 k u hk with ⟨e1, e2⟩ | ⟨e1, e2, e3, e4⟩
  · subst e1; subst e2
    exact ⟨hla.2.2 _ List.mem_cons_self, hok⟩
  · refine ⟨hla.2.2 (k, pm_mv ad u) (List.mem_cons_of_mem _ (List.mem_filter.mpr ⟨pm_al_in e4, ?_⟩)), (hl.2.2.2 k u e4).2⟩
    simp only [pm_mv_cat]
    have e6 : ¬ k = i + 1 := fun z => e2 ⟨hv, z⟩
    by_cases e5 : k + 1 = i
    · have : ¬ pm_cat u = 2 := fun z => e3 ⟨e5, z⟩
      simp [e1, e6, this]
    · simp [e1, e5, e6]
def pm_nl (o : Option pm_v) : Bool := match o with
  | some (.inr (.inl _)) => false
  | _ => true
theorem pm_nl_cat {u : pm_v} (h : pm_nl (some u) = true) : ¬ pm_cat u = 2 := by
  rcases u with x | x | _ | q
  · intro z; cases z
  · cases h
  · intro z; cases z
  · intro z; cases z
theorem pr_istore_n {k4 : Fin 4} {i : Nat} {x : Int32} {ls' : List (Option pm_v)} (q : Nat) (hd : decode cc pc = .ok (.istore_n k4, 1)) (hi : (k4 : Nat) = i) (hst : pm_st ls ls' i (pI x)) (hq : pc + 1 = q) (k : PR cc own nL fr lo q ls' st mem X) : PR cc own nL fr lo pc ls (pI x :: st) mem X := by
  subst hq
  refine PR.step1 (fun H locs la hC hl hs hH hS kk => ?_) k
  exact lv_istore_n hC.1 hC.2.1 hd hi hl.has (by have := hl.2.2.1; have := hst.2.1; simp only [pm_cat] at this; omega) rfl (fun la' hla => kk la' (hst.to1 rfl hs.1 hl hla) hs.2)
theorem pr_istore {i : Nat} {x : Int32} {ls' : List (Option pm_v)} (q : Nat) (hd : decode cc pc = .ok (.istore i, 2)) (hst : pm_st ls ls' i (pI x)) (hq : pc + 2 = q) (k : PR cc own nL fr lo q ls' st mem X) : PR cc own nL fr lo pc ls (pI x :: st) mem X := by
  subst hq
  refine PR.step1 (fun H locs la hC hl hs hH hS kk => ?_) k
  exact lv_istore hC.1 hC.2.1 hd hl.has (by have := hl.2.2.1; have := hst.2.1; simp only [pm_cat] at this; omega) rfl (fun la' hla => kk la' (hst.to1 rfl hs.1 hl hla) hs.2)
theorem pr_astore_n {k4 : Fin 4} {i : Nat} {t j : Nat} {ls' : List (Option pm_v)} (q : Nat) (hd : decode cc pc = .ok (.astore_n k4, 1)) (hi : (k4 : Nat) = i) (hst : pm_st ls ls' i (pR t j)) (hq : pc + 1 = q) (k : PR cc own nL fr lo q ls' st mem X) : PR cc own nL fr lo pc ls (pR t j :: st) mem X := by
  subst hq
  refine PR.step1 (fun H locs la hC hl hs hH hS kk => ?_) k
  exact lv_astore_n hC.1 hC.2.1 hd hi hl.has (by have := hl.2.2.1; have := hst.2.1; simp only [pm_cat] at this; omega) rfl (fun la' hla => kk la' (hst.to1 rfl hs.1 hl hla) hs.2)
theorem pr_astore {i : Nat} {t j : Nat} {ls' : List (Option pm_v)} (q : Nat) (hd : decode cc pc = .ok (.astore i, 2)) (hst : pm_st ls ls' i (pR t j)) (hq : pc + 2 = q) (k : PR cc own nL fr lo q ls' st mem X) : PR cc own nL fr lo pc ls (pR t j :: st) mem X := by
  subst hq
  refine PR.step1 (fun H locs la hC hl hs hH hS kk => ?_) k
  exact lv_astore hC.1 hC.2.1 hd hl.has (by have := hl.2.2.1; have := hst.2.1; simp only [pm_cat] at this; omega) rfl (fun la' hla => kk la' (hst.to1 rfl hs.1 hl hla) hs.2)
theorem pr_lstore_n {k4 : Fin 4} {i : Nat} {x : Int64} {ls' : List (Option pm_v)} (q : Nat) (hd : decode cc pc = .ok (.lstore_n k4, 1)) (hi : (k4 : Nat) = i) (hst : pm_st ls ls' i (pJ x)) (hq : pc + 1 = q) (k : PR cc own nL fr lo q ls' st mem X) : PR cc own nL fr lo pc ls (pJ x :: st) mem X := by
  subst hq
  refine PR.step1 (fun H locs la hC hl hs hH hS kk => ?_) k
  exact lv_lstore_n hC.1 hC.2.1 hd hi hl.has (by have := hl.2.2.1; have := hst.2.1; simp only [pm_cat] at this; omega) rfl (fun la' hla => kk la' (hst.to2 rfl hs.1 hl hla) hs.2)
theorem pr_lstore {i : Nat} {x : Int64} {ls' : List (Option pm_v)} (q : Nat) (hd : decode cc pc = .ok (.lstore i, 2)) (hst : pm_st ls ls' i (pJ x)) (hq : pc + 2 = q) (k : PR cc own nL fr lo q ls' st mem X) : PR cc own nL fr lo pc ls (pJ x :: st) mem X := by
  subst hq
  refine PR.step1 (fun H locs la hC hl hs hH hS kk => ?_) k
  exact lv_lstore hC.1 hC.2.1 hd hl.has (by have := hl.2.2.1; have := hst.2.1; simp only [pm_cat] at this; omega) rfl (fun la' hla => kk la' (hst.to2 rfl hs.1 hl hla) hs.2)
theorem pr_iinc {i : Nat} {n : Int} {x v : Int32} {ls' : List (Option pm_v)} (q : Nat) (hd : decode cc pc = .ok (.iinc i n, 3)) (hx : ls[i]? = some (some (pI x))) (hv : x + Int32.ofInt n = v) (hst : pm_st ls ls' i (pI v)) (hq : pc + 3 = q) (k : PR cc own nL fr lo q ls' st mem X) : PR cc own nL fr lo pc ls st mem X := by
  subst hq
  refine PR.step1 (fun H locs la hC hl hs hH hS kk => ?_) k
  obtain ⟨kx, hkx⟩ := List.mem_iff_getElem?.mp (pm_al_in (ad := _) hx)
  exact lv_iinc hC.1 hC.2.1 hd hl.has hkx hv (by have := hl.2.2.1; have := hst.2.1; simp only [pm_cat] at this; omega) rfl (fun la' hla => kk la' (hst.to1 rfl trivial hl hla) hs)
theorem pm_st_0 {a0 : Option pm_v} {r : List (Option pm_v)} {v : pm_v} (hv : pm_cat v = 1) : pm_st (a0 :: r) (some v :: r) 0 v := by
  refine ⟨rfl, by rw [hv]; simp only [List.length_cons]; omega, fun k u hk => ?_⟩
  by_cases e : k = 0
  · subst e; exact Or.inl ⟨rfl, (Option.some.inj (Option.some.inj hk)).symm⟩
  · refine Or.inr ⟨e, by omega, by omega, ?_⟩
    obtain ⟨k, rfl⟩ : ∃ j, k = j + 1 := ⟨k - 1, by omega⟩
    exact hk
theorem pm_st_1 {a0 a1 : Option pm_v} {r : List (Option pm_v)} {v : pm_v} (hv : pm_cat v = 1) (hn : pm_nl a0 = true) : pm_st (a0 :: a1 :: r) (a0 :: some v :: r) 1 v := by
  refine ⟨rfl, by rw [hv]; simp only [List.length_cons]; omega, fun k u hk => ?_⟩
  by_cases e : k = 1
  · subst e; exact Or.inl ⟨rfl, (Option.some.inj (Option.some.inj hk)).symm⟩
  · have hk2 : (a0 :: a1 :: r)[k]? = some (some u) := by
      rcases Nat.lt_or_ge k 1 with z | z
      · match k, z, hk with
        | 0, _, hk => exact hk
      · obtain ⟨k, rfl⟩ : ∃ j, k = j + 2 := ⟨k - 2, by omega⟩
        exact hk
    refine Or.inr ⟨e, by rw [hv]; omega, ?_, hk2⟩
    rintro ⟨z1, z2⟩
    obtain rfl : k = 0 := by omega
    have z3 : a0 = some u := Option.some.inj hk2
    rw [z3] at hn
    exact pm_nl_cat hn z2
theorem pm_st_2 {a0 a1 a2 : Option pm_v} {r : List (Option pm_v)} {v : pm_v} (hv : pm_cat v = 1) (hn : pm_nl a1 = true) : pm_st (a0 :: a1 :: a2 :: r) (a0 :: a1 :: some v :: r) 2 v := by
  refine ⟨rfl, by rw [hv]; simp only [List.length_cons]; omega, fun k u hk => ?_⟩
  by_cases e : k = 2
  · subst e; exact Or.inl ⟨rfl, (Option.some.inj (Option.some.inj hk)).symm⟩
  · have hk2 : (a0 :: a1 :: a2 :: r)[k]? = some (some u) := by
      rcases Nat.lt_or_ge k 2 with z | z
      · match k, z, hk with
        | 0, _, hk => exact hk
        | 1, _, hk => exact hk
      · obtain ⟨k, rfl⟩ : ∃ j, k = j + 3 := ⟨k - 3, by omega⟩
        exact hk
    refine Or.inr ⟨e, by rw [hv]; omega, ?_, hk2⟩
    rintro ⟨z1, z2⟩
    obtain rfl : k = 1 := by omega
    have z3 : a1 = some u := Option.some.inj hk2
    rw [z3] at hn
    exact pm_nl_cat hn z2
theorem pm_st_3 {a0 a1 a2 a3 : Option pm_v} {r : List (Option pm_v)} {v : pm_v} (hv : pm_cat v = 1) (hn : pm_nl a2 = true) : pm_st (a0 :: a1 :: a2 :: a3 :: r) (a0 :: a1 :: a2 :: some v :: r) 3 v := by
  refine ⟨rfl, by rw [hv]; simp only [List.length_cons]; omega, fun k u hk => ?_⟩
  by_cases e : k = 3
  · subst e; exact Or.inl ⟨rfl, (Option.some.inj (Option.some.inj hk)).symm⟩
  · have hk2 : (a0 :: a1 :: a2 :: a3 :: r)[k]? = some (some u) := by
      rcases Nat.lt_or_ge k 3 with z | z
      · match k, z, hk with
        | 0, _, hk => exact hk
        | 1, _, hk => exact hk
        | 2, _, hk => exact hk
      · obtain ⟨k, rfl⟩ : ∃ j, k = j + 4 := ⟨k - 4, by omega⟩
        exact hk
    refine Or.inr ⟨e, by rw [hv]; omega, ?_, hk2⟩
    rintro ⟨z1, z2⟩
    obtain rfl : k = 2 := by omega
    have z3 : a2 = some u := Option.some.inj hk2
    rw [z3] at hn
    exact pm_nl_cat hn z2
theorem pm_st_4 {a0 a1 a2 a3 a4 : Option pm_v} {r : List (Option pm_v)} {v : pm_v} (hv : pm_cat v = 1) (hn : pm_nl a3 = true) : pm_st (a0 :: a1 :: a2 :: a3 :: a4 :: r) (a0 :: a1 :: a2 :: a3 :: some v :: r) 4 v := by
  refine ⟨rfl, by rw [hv]; simp only [List.length_cons]; omega, fun k u hk => ?_⟩
  by_cases e : k = 4
  · subst e; exact Or.inl ⟨rfl, (Option.some.inj (Option.some.inj hk)).symm⟩
  · have hk2 : (a0 :: a1 :: a2 :: a3 :: a4 :: r)[k]? = some (some u) := by
      rcases Nat.lt_or_ge k 4 with z | z
      · match k, z, hk with
        | 0, _, hk => exact hk
        | 1, _, hk => exact hk
        | 2, _, hk => exact hk
        | 3, _, hk => exact hk
      · obtain ⟨k, rfl⟩ : ∃ j, k = j + 5 := ⟨k - 5, by omega⟩
        exact hk
    refine Or.inr ⟨e, by rw [hv]; omega, ?_, hk2⟩
    rintro ⟨z1, z2⟩
    obtain rfl : k = 3 := by omega
    have z3 : a3 = some u := Option.some.inj hk2
    rw [z3] at hn
    exact pm_nl_cat hn z2
theorem pm_st_5 {a0 a1 a2 a3 a4 a5 : Option pm_v} {r : List (Option pm_v)} {v : pm_v} (hv : pm_cat v = 1) (hn : pm_nl a4 = true) : pm_st (a0 :: a1 :: a2 :: a3 :: a4 :: a5 :: r) (a0 :: a1 :: a2 :: a3 :: a4 :: some v :: r) 5 v := by
  refine ⟨rfl, by rw [hv]; simp only [List.length_cons]; omega, fun k u hk => ?_⟩
  by_cases e : k = 5
  · subst e; exact Or.inl ⟨rfl, (Option.some.inj (Option.some.inj hk)).symm⟩
  · have hk2 : (a0 :: a1 :: a2 :: a3 :: a4 :: a5 :: r)[k]? = some (some u) := by
      rcases Nat.lt_or_ge k 5 with z | z
      · match k, z, hk with
        | 0, _, hk => exact hk
        | 1, _, hk => exact hk
        | 2, _, hk => exact hk
        | 3, _, hk => exact hk
        | 4, _, hk => exact hk
      · obtain ⟨k, rfl⟩ : ∃ j, k = j + 6 := ⟨k - 6, by omega⟩
        exact hk
    refine Or.inr ⟨e, by rw [hv]; omega, ?_, hk2⟩
    rintro ⟨z1, z2⟩
    obtain rfl : k = 4 := by omega
    have z3 : a4 = some u := Option.some.inj hk2
    rw [z3] at hn
    exact pm_nl_cat hn z2
theorem pm_st_6 {a0 a1 a2 a3 a4 a5 a6 : Option pm_v} {r : List (Option pm_v)} {v : pm_v} (hv : pm_cat v = 1) (hn : pm_nl a5 = true) : pm_st (a0 :: a1 :: a2 :: a3 :: a4 :: a5 :: a6 :: r) (a0 :: a1 :: a2 :: a3 :: a4 :: a5 :: some v :: r) 6 v := by
  refine ⟨rfl, by rw [hv]; simp only [List.length_cons]; omega, fun k u hk => ?_⟩
  by_cases e : k = 6
  · subst e; exact Or.inl ⟨rfl, (Option.some.inj (Option.some.inj hk)).symm⟩
  · have hk2 : (a0 :: a1 :: a2 :: a3 :: a4 :: a5 :: a6 :: r)[k]? = some (some u) := by
      rcases Nat.lt_or_ge k 6 with z | z
      · match k, z, hk with
        | 0, _, hk => exact hk
        | 1, _, hk => exact hk
        | 2, _, hk => exact hk
        | 3, _, hk => exact hk
        | 4, _, hk => exact hk
        | 5, _, hk => exact hk
      · obtain ⟨k, rfl⟩ : ∃ j, k = j + 7 := ⟨k - 7, by omega⟩
        exact hk
    refine Or.inr ⟨e, by rw [hv]; omega, ?_, hk2⟩
    rintro ⟨z1, z2⟩
    obtain rfl : k = 5 := by omega
    have z3 : a5 = some u := Option.some.inj hk2
    rw [z3] at hn
    exact pm_nl_cat hn z2
theorem pm_st_7 {a0 a1 a2 a3 a4 a5 a6 a7 : Option pm_v} {r : List (Option pm_v)} {v : pm_v} (hv : pm_cat v = 1) (hn : pm_nl a6 = true) : pm_st (a0 :: a1 :: a2 :: a3 :: a4 :: a5 :: a6 :: a7 :: r) (a0 :: a1 :: a2 :: a3 :: a4 :: a5 :: a6 :: some v :: r) 7 v := by
  refine ⟨rfl, by rw [hv]; simp only [List.length_cons]; omega, fun k u hk => ?_⟩
  by_cases e : k = 7
  · subst e; exact Or.inl ⟨rfl, (Option.some.inj (Option.some.inj hk)).symm⟩
  · have hk2 : (a0 :: a1 :: a2 :: a3 :: a4 :: a5 :: a6 :: a7 :: r)[k]? = some (some u) := by
      rcases Nat.lt_or_ge k 7 with z | z
      · match k, z, hk with
        | 0, _, hk => exact hk
        | 1, _, hk => exact hk
        | 2, _, hk => exact hk
        | 3, _, hk => exact hk
        | 4, _, hk => exact hk
        | 5, _, hk => exact hk
        | 6, _, hk => exact hk
      · obtain ⟨k, rfl⟩ : ∃ j, k = j + 8 := ⟨k - 8, by omega⟩
        exact hk
    refine Or.inr ⟨e, by rw [hv]; omega, ?_, hk2⟩
    rintro ⟨z1, z2⟩
    obtain rfl : k = 6 := by omega
    have z3 : a6 = some u := Option.some.inj hk2
    rw [z3] at hn
    exact pm_nl_cat hn z2
theorem pm_st_8 {a0 a1 a2 a3 a4 a5 a6 a7 a8 : Option pm_v} {r : List (Option pm_v)} {v : pm_v} (hv : pm_cat v = 1) (hn : pm_nl a7 = true) : pm_st (a0 :: a1 :: a2 :: a3 :: a4 :: a5 :: a6 :: a7 :: a8 :: r) (a0 :: a1 :: a2 :: a3 :: a4 :: a5 :: a6 :: a7 :: some v :: r) 8 v := by
  refine ⟨rfl, by rw [hv]; simp only [List.length_cons]; omega, fun k u hk => ?_⟩
  by_cases e : k = 8
  · subst e; exact Or.inl ⟨rfl, (Option.some.inj (Option.some.inj hk)).symm⟩
  · have hk2 : (a0 :: a1 :: a2 :: a3 :: a4 :: a5 :: a6 :: a7 :: a8 :: r)[k]? = some (some u) := by
      rcases Nat.lt_or_ge k 8 with z | z
      · match k, z, hk with
        | 0, _, hk => exact hk
        | 1, _, hk => exact hk
        | 2, _, hk => exact hk
        | 3, _, hk => exact hk
        | 4, _, hk => exact hk
        | 5, _, hk => exact hk
        | 6, _, hk => exact hk
        | 7, _, hk => exact hk
      · obtain ⟨k, rfl⟩ : ∃ j, k = j + 9 := ⟨k - 9, by omega⟩
        exact hk
    refine Or.inr ⟨e, by rw [hv]; omega, ?_, hk2⟩
    rintro ⟨z1, z2⟩
    obtain rfl : k = 7 := by omega
    have z3 : a7 = some u := Option.some.inj hk2
    rw [z3] at hn
    exact pm_nl_cat hn z2
theorem pm_st_9 {a0 a1 a2 a3 a4 a5 a6 a7 a8 a9 : Option pm_v} {r : List (Option pm_v)} {v : pm_v} (hv : pm_cat v = 1) (hn : pm_nl a8 = true) : pm_st (a0 :: a1 :: a2 :: a3 :: a4 :: a5 :: a6 :: a7 :: a8 :: a9 :: r) (a0 :: a1 :: a2 :: a3 :: a4 :: a5 :: a6 :: a7 :: a8 :: some v :: r) 9 v := by
  refine ⟨rfl, by rw [hv]; simp only [List.length_cons]; omega, fun k u hk => ?_⟩
  by_cases e : k = 9
  · subst e; exact Or.inl ⟨rfl, (Option.some.inj (Option.some.inj hk)).symm⟩
  · have hk2 : (a0 :: a1 :: a2 :: a3 :: a4 :: a5 :: a6 :: a7 :: a8 :: a9 :: r)[k]? = some (some u) := by
      rcases Nat.lt_or_ge k 9 with z | z
      · match k, z, hk with
        | 0, _, hk => exact hk
        | 1, _, hk => exact hk
        | 2, _, hk => exact hk
        | 3, _, hk => exact hk
        | 4, _, hk => exact hk
        | 5, _, hk => exact hk
        | 6, _, hk => exact hk
        | 7, _, hk => exact hk
        | 8, _, hk => exact hk
      · obtain ⟨k, rfl⟩ : ∃ j, k = j + 10 := ⟨k - 10, by omega⟩
        exact hk
    refine Or.inr ⟨e, by rw [hv]; omega, ?_, hk2⟩
    rintro ⟨z1, z2⟩
    obtain rfl : k = 8 := by omega
    have z3 : a8 = some u := Option.some.inj hk2
    rw [z3] at hn
    exact pm_nl_cat hn z2
theorem pm_st_10 {a0 a1 a2 a3 a4 a5 a6 a7 a8 a9 a10 : Option pm_v} {r : List (Option pm_v)} {v : pm_v} (hv : pm_cat v = 1) (hn : pm_nl a9 = true) : pm_st (a0 :: a1 :: a2 :: a3 :: a4 :: a5 :: a6 :: a7 :: a8 :: a9 :: a10 :: r) (a0 :: a1 :: a2 :: a3 :: a4 :: a5 :: a6 :: a7 :: a8 :: a9 :: some v :: r) 10 v := by
  refine ⟨rfl, by rw [hv]; simp only [List.length_cons]; omega, fun k u hk => ?_⟩
  by_cases e : k = 10
  · subst e; exact Or.inl ⟨rfl, (Option.some.inj (Option.some.inj hk)).symm⟩
  · have hk2 : (a0 :: a1 :: a2 :: a3 :: a4 :: a5 :: a6 :: a7 :: a8 :: a9 :: a10 :: r)[k]? = some (some u) := by
      rcases Nat.lt_or_ge k 10 with z | z
      · match k, z, hk with
        | 0, _, hk => exact hk
        | 1, _, hk => exact hk
        | 2, _, hk => exact hk
        | 3, _, hk => exact hk
        | 4, _, hk => exact hk
        | 5, _, hk => exact hk
        | 6, _, hk => exact hk
        | 7, _, hk => exact hk
        | 8, _, hk => exact hk
        | 9, _, hk => exact hk
      · obtain ⟨k, rfl⟩ : ∃ j, k = j + 11 := ⟨k - 11, by omega⟩
        exact hk
    refine Or.inr ⟨e, by rw [hv]; omega, ?_, hk2⟩
    rintro ⟨z1, z2⟩
    obtain rfl : k = 9 := by omega
    have z3 : a9 = some u := Option.some.inj hk2
    rw [z3] at hn
    exact pm_nl_cat hn z2
theorem pm_st_11 {a0 a1 a2 a3 a4 a5 a6 a7 a8 a9 a10 a11 : Option pm_v} {r : List (Option pm_v)} {v : pm_v} (hv : pm_cat v = 1) (hn : pm_nl a10 = true) : pm_st (a0 :: a1 :: a2 :: a3 :: a4 :: a5 :: a6 :: a7 :: a8 :: a9 :: a10 :: a11 :: r) (a0 :: a1 :: a2 :: a3 :: a4 :: a5 :: a6 :: a7 :: a8 :: a9 :: a10 :: some v :: r) 11 v := by
  refine ⟨rfl, by rw [hv]; simp only [List.length_cons]; omega, fun k u hk => ?_⟩
  by_cases e : k = 11
  · subst e; exact Or.inl ⟨rfl, (Option.some.inj (Option.some.inj hk)).symm⟩
  · have hk2 : (a0 :: a1 :: a2 :: a3 :: a4 :: a5 :: a6 :: a7 :: a8 :: a9 :: a10 :: a11 :: r)[k]? = some (some u) := by
      rcases Nat.lt_or_ge k 11 with z | z
      · match k, z, hk with
        | 0, _, hk => exact hk
        | 1, _, hk => exact hk
        | 2, _, hk => exact hk
        | 3, _, hk => exact hk
        | 4, _, hk => exact hk
        | 5, _, hk => exact hk
        | 6, _, hk => exact hk
        | 7, _, hk => exact hk
        | 8, _, hk => exact hk
        | 9, _, hk => exact hk
        | 10, _, hk => exact hk
      · obtain ⟨k, rfl⟩ : ∃ j, k = j + 12 := ⟨k - 12, by omega⟩
        exact hk
    refine Or.inr ⟨e, by rw [hv]; omega, ?_, hk2⟩
    rintro ⟨z1, z2⟩
    obtain rfl : k = 10 := by omega
    have z3 : a10 = some u := Option.some.inj hk2
    rw [z3] at hn
    exact pm_nl_cat hn z2
theorem pm_st_12 {a0 a1 a2 a3 a4 a5 a6 a7 a8 a9 a10 a11 a12 : Option pm_v} {r : List (Option pm_v)} {v : pm_v} (hv : pm_cat v = 1) (hn : pm_nl a11 = true) : pm_st (a0 :: a1 :: a2 :: a3 :: a4 :: a5 :: a6 :: a7 :: a8 :: a9 :: a10 :: a11 :: a12 :: r) (a0 :: a1 :: a2 :: a3 :: a4 :: a5 :: a6 :: a7 :: a8 :: a9 :: a10 :: a11 :: some v :: r) 12 v := by
  refine ⟨rfl, by rw [hv]; simp only [List.length_cons]; omega, fun k u hk => ?_⟩
  by_cases e : k = 12
  · subst e; exact Or.inl ⟨rfl, (Option.some.inj (Option.some.inj hk)).symm⟩
  · have hk2 : (a0 :: a1 :: a2 :: a3 :: a4 :: a5 :: a6 :: a7 :: a8 :: a9 :: a10 :: a11 :: a12 :: r)[k]? = some (some u) := by
      rcases Nat.lt_or_ge k 12 with z | z
      · match k, z, hk with
        | 0, _, hk => exact hk
        | 1, _, hk => exact hk
        | 2, _, hk => exact hk
        | 3, _, hk => exact hk
        | 4, _, hk => exact hk
        | 5, _, hk => exact hk
        | 6, _, hk => exact hk
        | 7, _, hk => exact hk
        | 8, _, hk => exact hk
        | 9, _, hk => exact hk
        | 10, _, hk => exact hk
        | 11, _, hk => exact hk
      · obtain ⟨k, rfl⟩ : ∃ j, k = j + 13 := ⟨k - 13, by omega⟩
        exact hk
    refine Or.inr ⟨e, by rw [hv]; omega, ?_, hk2⟩
    rintro ⟨z1, z2⟩
    obtain rfl : k = 11 := by omega
    have z3 : a11 = some u := Option.some.inj hk2
    rw [z3] at hn
    exact pm_nl_cat hn z2
theorem pm_st2_0 {a0 a1 : Option pm_v} {r : List (Option pm_v)} {x : Int64} : pm_st (a0 :: a1 :: r) (some (pJ x) :: none :: r) 0 (pJ x) := by
  refine ⟨rfl, by show 0 + 2 ≤ _; simp only [List.length_cons]; omega, fun k u hk => ?_⟩
  by_cases e : k = 0
  · subst e; exact Or.inl ⟨rfl, (Option.some.inj (Option.some.inj hk)).symm⟩
  · by_cases e1 : k = 1
    · subst e1; cases hk
    · have hk2 : (a0 :: a1 :: r)[k]? = some (some u) := by
        rcases Nat.lt_or_ge k 0 with z | z
        · omega
        · obtain ⟨k, rfl⟩ : ∃ j, k = j + 2 := ⟨k - 2, by omega⟩
          exact hk
      refine Or.inr ⟨e, by omega, ?_, hk2⟩
      omega
theorem pm_st2_1 {a0 a1 a2 : Option pm_v} {r : List (Option pm_v)} {x : Int64} (hn : pm_nl a0 = true) : pm_st (a0 :: a1 :: a2 :: r) (a0 :: some (pJ x) :: none :: r) 1 (pJ x) := by
  refine ⟨rfl, by show 1 + 2 ≤ _; simp only [List.length_cons]; omega, fun k u hk => ?_⟩
  by_cases e : k = 1
  · subst e; exact Or.inl ⟨rfl, (Option.some.inj (Option.some.inj hk)).symm⟩
  · by_cases e1 : k = 2
    · subst e1; cases hk
    · have hk2 : (a0 :: a1 :: a2 :: r)[k]? = some (some u) := by
        rcases Nat.lt_or_ge k 1 with z | z
        · match k, z, hk with
          | 0, _, hk => exact hk
        · obtain ⟨k, rfl⟩ : ∃ j, k = j + 3 := ⟨k - 3, by omega⟩
          exact hk
      refine Or.inr ⟨e, by omega, ?_, hk2⟩
      rintro ⟨z1, z2⟩
      obtain rfl : k = 0 := by omega
      have z3 : a0 = some u := Option.some.inj hk2
      rw [z3] at hn
      exact pm_nl_cat hn z2
theorem pm_st2_2 {a0 a1 a2 a3 : Option pm_v} {r : List (Option pm_v)} {x : Int64} (hn : pm_nl a1 = true) : pm_st (a0 :: a1 :: a2 :: a3 :: r) (a0 :: a1 :: some (pJ x) :: none :: r) 2 (pJ x) := by
  refine ⟨rfl, by show 2 + 2 ≤ _; simp only [List.length_cons]; omega, fun k u hk => ?_⟩
  by_cases e : k = 2
  · subst e; exact Or.inl ⟨rfl, (Option.some.inj (Option.some.inj hk)).symm⟩
  · by_cases e1 : k = 3
    · subst e1; cases hk
    · have hk2 : (a0 :: a1 :: a2 :: a3 :: r)[k]? = some (some u) := by
        rcases Nat.lt_or_ge k 2 with z | z
        · match k, z, hk with
          | 0, _, hk => exact hk
          | 1, _, hk => exact hk
        · obtain ⟨k, rfl⟩ : ∃ j, k = j + 4 := ⟨k - 4, by omega⟩
          exact hk
      refine Or.inr ⟨e, by omega, ?_, hk2⟩
      rintro ⟨z1, z2⟩
      obtain rfl : k = 1 := by omega
      have z3 : a1 = some u := Option.some.inj hk2
      rw [z3] at hn
      exact pm_nl_cat hn z2
theorem pm_st2_3 {a0 a1 a2 a3 a4 : Option pm_v} {r : List (Option pm_v)} {x : Int64} (hn : pm_nl a2 = true) : pm_st (a0 :: a1 :: a2 :: a3 :: a4 :: r) (a0 :: a1 :: a2 :: some (pJ x) :: none :: r) 3 (pJ x) := by
  refine ⟨rfl, by show 3 + 2 ≤ _; simp only [List.length_cons]; omega, fun k u hk => ?_⟩
  by_cases e : k = 3
  · subst e; exact Or.inl ⟨rfl, (Option.some.inj (Option.some.inj hk)).symm⟩
  · by_cases e1 : k = 4
    · subst e1; cases hk
    · have hk2 : (a0 :: a1 :: a2 :: a3 :: a4 :: r)[k]? = some (some u) := by
        rcases Nat.lt_or_ge k 3 with z | z
        · match k, z, hk with
          | 0, _, hk => exact hk
          | 1, _, hk => exact hk
          | 2, _, hk => exact hk
        · obtain ⟨k, rfl⟩ : ∃ j, k = j + 5 := ⟨k - 5, by omega⟩
          exact hk
      refine Or.inr ⟨e, by omega, ?_, hk2⟩
      rintro ⟨z1, z2⟩
      obtain rfl : k = 2 := by omega
      have z3 : a2 = some u := Option.some.inj hk2
      rw [z3] at hn
      exact pm_nl_cat hn z2
theorem pm_st2_4 {a0 a1 a2 a3 a4 a5 : Option pm_v} {r : List (Option pm_v)} {x : Int64} (hn : pm_nl a3 = true) : pm_st (a0 :: a1 :: a2 :: a3 :: a4 :: a5 :: r) (a0 :: a1 :: a2 :: a3 :: some (pJ x) :: none :: r) 4 (pJ x) := by
  refine ⟨rfl, by show 4 + 2 ≤ _; simp only [List.length_cons]; omega, fun k u hk => ?_⟩
  by_cases e : k = 4
  · subst e; exact Or.inl ⟨rfl, (Option.some.inj (Option.some.inj hk)).symm⟩
  · by_cases e1 : k = 5
    · subst e1; cases hk
    · have hk2 : (a0 :: a1 :: a2 :: a3 :: a4 :: a5 :: r)[k]? = some (some u) := by
        rcases Nat.lt_or_ge k 4 with z | z
        · match k, z, hk with
          | 0, _, hk => exact hk
          | 1, _, hk => exact hk
          | 2, _, hk => exact hk
          | 3, _, hk => exact hk
        · obtain ⟨k, rfl⟩ : ∃ j, k = j + 6 := ⟨k - 6, by omega⟩
          exact hk
      refine Or.inr ⟨e, by omega, ?_, hk2⟩
      rintro ⟨z1, z2⟩
      obtain rfl : k = 3 := by omega
      have z3 : a3 = some u := Option.some.inj hk2
      rw [z3] at hn
      exact pm_nl_cat hn z2
theorem pm_st2_5 {a0 a1 a2 a3 a4 a5 a6 : Option pm_v} {r : List (Option pm_v)} {x : Int64} (hn : pm_nl a4 = true) : pm_st (a0 :: a1 :: a2 :: a3 :: a4 :: a5 :: a6 :: r) (a0 :: a1 :: a2 :: a3 :: a4 :: some (pJ x) :: none :: r) 5 (pJ x) := by
  refine ⟨rfl, by show 5 + 2 ≤ _; simp only [List.length_cons]; omega, fun k u hk => ?_⟩
  by_cases e : k = 5
  · subst e; exact Or.inl ⟨rfl, (Option.some.inj (Option.some.inj hk)).symm⟩
  · by_cases e1 : k = 6
    · subst e1; cases hk
    · have hk2 : (a0 :: a1 :: a2 :: a3 :: a4 :: a5 :: a6 :: r)[k]? = some (some u) := by
        rcases Nat.lt_or_ge k 5 with z | z
        · match k, z, hk with
          | 0, _, hk => exact hk
          | 1, _, hk => exact hk
          | 2, _, hk => exact hk
          | 3, _, hk => exact hk
          | 4, _, hk => exact hk
        · obtain ⟨k, rfl⟩ : ∃ j, k = j + 7 := ⟨k - 7, by omega⟩
          exact hk
      refine Or.inr ⟨e, by omega, ?_, hk2⟩
      rintro ⟨z1, z2⟩
      obtain rfl : k = 4 := by omega
      have z3 : a4 = some u := Option.some.inj hk2
      rw [z3] at hn
      exact pm_nl_cat hn z2
theorem pm_st2_6 {a0 a1 a2 a3 a4 a5 a6 a7 : Option pm_v} {r : List (Option pm_v)} {x : Int64} (hn : pm_nl a5 = true) : pm_st (a0 :: a1 :: a2 :: a3 :: a4 :: a5 :: a6 :: a7 :: r) (a0 :: a1 :: a2 :: a3 :: a4 :: a5 :: some (pJ x) :: none :: r) 6 (pJ x) := by
  refine ⟨rfl, by show 6 + 2 ≤ _; simp only [List.length_cons]; omega, fun k u hk => ?_⟩
  by_cases e : k = 6
  · subst e; exact Or.inl ⟨rfl, (Option.some.inj (Option.some.inj hk)).symm⟩
  · by_cases e1 : k = 7
    · subst e1; cases hk
    · have hk2 : (a0 :: a1 :: a2 :: a3 :: a4 :: a5 :: a6 :: a7 :: r)[k]? = some (some u) := by
        rcases Nat.lt_or_ge k 6 with z | z
        · match k, z, hk with
          | 0, _, hk => exact hk
          | 1, _, hk => exact hk
          | 2, _, hk => exact hk
          | 3, _, hk => exact hk
          | 4, _, hk => exact hk
          | 5, _, hk => exact hk
        · obtain ⟨k, rfl⟩ : ∃ j, k = j + 8 := ⟨k - 8, by omega⟩
          exact hk
      refine Or.inr ⟨e, by omega, ?_, hk2⟩
      rintro ⟨z1, z2⟩
      obtain rfl : k = 5 := by omega
      have z3 : a5 = some u := Option.some.inj hk2
      rw [z3] at hn
      exact pm_nl_cat hn z2
theorem pm_st2_7 {a0 a1 a2 a3 a4 a5 a6 a7 a8 : Option pm_v} {r : List (Option pm_v)} {x : Int64} (hn : pm_nl a6 = true) : pm_st (a0 :: a1 :: a2 :: a3 :: a4 :: a5 :: a6 :: a7 :: a8 :: r) (a0 :: a1 :: a2 :: a3 :: a4 :: a5 :: a6 :: some (pJ x) :: none :: r) 7 (pJ x) := by
  refine ⟨rfl, by show 7 + 2 ≤ _; simp only [List.length_cons]; omega, fun k u hk => ?_⟩
  by_cases e : k = 7
  · subst e; exact Or.inl ⟨rfl, (Option.some.inj (Option.some.inj hk)).symm⟩
  · by_cases e1 : k = 8
    · subst e1; cases hk
    · have hk2 : (a0 :: a1 :: a2 :: a3 :: a4 :: a5 :: a6 :: a7 :: a8 :: r)[k]? = some (some u) := by
        rcases Nat.lt_or_ge k 7 with z | z
        · match k, z, hk with
          | 0, _, hk => exact hk
          | 1, _, hk => exact hk
          | 2, _, hk => exact hk
          | 3, _, hk => exact hk
          | 4, _, hk => exact hk
          | 5, _, hk => exact hk
          | 6, _, hk => exact hk
        · obtain ⟨k, rfl⟩ : ∃ j, k = j + 9 := ⟨k - 9, by omega⟩
          exact hk
      refine Or.inr ⟨e, by omega, ?_, hk2⟩
      rintro ⟨z1, z2⟩
      obtain rfl : k = 6 := by omega
      have z3 : a6 = some u := Option.some.inj hk2
      rw [z3] at hn
      exact pm_nl_cat hn z2
theorem pm_st2_8 {a0 a1 a2 a3 a4 a5 a6 a7 a8 a9 : Option pm_v} {r : List (Option pm_v)} {x : Int64} (hn : pm_nl a7 = true) : pm_st (a0 :: a1 :: a2 :: a3 :: a4 :: a5 :: a6 :: a7 :: a8 :: a9 :: r) (a0 :: a1 :: a2 :: a3 :: a4 :: a5 :: a6 :: a7 :: some (pJ x) :: none :: r) 8 (pJ x) := by
  refine ⟨rfl, by show 8 + 2 ≤ _; simp only [List.length_cons]; omega, fun k u hk => ?_⟩
  by_cases e : k = 8
  · subst e; exact Or.inl ⟨rfl, (Option.some.inj (Option.some.inj hk)).symm⟩
  · by_cases e1 : k = 9
    · subst e1; cases hk
    · have hk2 : (a0 :: a1 :: a2 :: a3 :: a4 :: a5 :: a6 :: a7 :: a8 :: a9 :: r)[k]? = some (some u) := by
        rcases Nat.lt_or_ge k 8 with z | z
        · match k, z, hk with
          | 0, _, hk => exact hk
          | 1, _, hk => exact hk
          | 2, _, hk => exact hk
          | 3, _, hk => exact hk
          | 4, _, hk => exact hk
          | 5, _, hk => exact hk
          | 6, _, hk => exact hk
          | 7, _, hk => exact hk
        · obtain ⟨k, rfl⟩ : ∃ j, k = j + 10 := ⟨k - 10, by omega⟩
          exact hk
      refine Or.inr ⟨e, by omega, ?_, hk2⟩
      rintro ⟨z1, z2⟩
      obtain rfl : k = 7 := by omega
      have z3 : a7 = some u := Option.some.inj hk2
      rw [z3] at hn
      exact pm_nl_cat hn z2
theorem pm_st2_9 {a0 a1 a2 a3 a4 a5 a6 a7 a8 a9 a10 : Option pm_v} {r : List (Option pm_v)} {x : Int64} (hn : pm_nl a8 = true) : pm_st (a0 :: a1 :: a2 :: a3 :: a4 :: a5 :: a6 :: a7 :: a8 :: a9 :: a10 :: r) (a0 :: a1 :: a2 :: a3 :: a4 :: a5 :: a6 :: a7 :: a8 :: some (pJ x) :: none :: r) 9 (pJ x) := by
  refine ⟨rfl, by show 9 + 2 ≤ _; simp only [List.length_cons]; omega, fun k u hk => ?_⟩
  by_cases e : k = 9
  · subst e; exact Or.inl ⟨rfl, (Option.some.inj (Option.some.inj hk)).symm⟩
  · by_cases e1 : k = 10
    · subst e1; cases hk
    · have hk2 : (a0 :: a1 :: a2 :: a3 :: a4 :: a5 :: a6 :: a7 :: a8 :: a9 :: a10 :: r)[k]? = some (some u) := by
        rcases Nat.lt_or_ge k 9 with z | z
        · match k, z, hk with
          | 0, _, hk => exact hk
          | 1, _, hk => exact hk
          | 2, _, hk => exact hk
          | 3, _, hk => exact hk
          | 4, _, hk => exact hk
          | 5, _, hk => exact hk
          | 6, _, hk => exact hk
          | 7, _, hk => exact hk
          | 8, _, hk => exact hk
        · obtain ⟨k, rfl⟩ : ∃ j, k = j + 11 := ⟨k - 11, by omega⟩
          exact hk
      refine Or.inr ⟨e, by omega, ?_, hk2⟩
      rintro ⟨z1, z2⟩
      obtain rfl : k = 8 := by omega
      have z3 : a8 = some u := Option.some.inj hk2
      rw [z3] at hn
      exact pm_nl_cat hn z2
theorem pm_st2_10 {a0 a1 a2 a3 a4 a5 a6 a7 a8 a9 a10 a11 : Option pm_v} {r : List (Option pm_v)} {x : Int64} (hn : pm_nl a9 = true) : pm_st (a0 :: a1 :: a2 :: a3 :: a4 :: a5 :: a6 :: a7 :: a8 :: a9 :: a10 :: a11 :: r) (a0 :: a1 :: a2 :: a3 :: a4 :: a5 :: a6 :: a7 :: a8 :: a9 :: some (pJ x) :: none :: r) 10 (pJ x) := by
  refine ⟨rfl, by show 10 + 2 ≤ _; simp only [List.length_cons]; omega, fun k u hk => ?_⟩
  by_cases e : k = 10
  · subst e; exact Or.inl ⟨rfl, (Option.some.inj (Option.some.inj hk)).symm⟩
  · by_cases e1 : k = 11
    · subst e1; cases hk
    · have hk2 : (a0 :: a1 :: a2 :: a3 :: a4 :: a5 :: a6 :: a7 :: a8 :: a9 :: a10 :: a11 :: r)[k]? = some (some u) := by
        rcases Nat.lt_or_ge k 10 with z | z
        · match k, z, hk with
          | 0, _, hk => exact hk
          | 1, _, hk => exact hk
          | 2, _, hk => exact hk
          | 3, _, hk => exact hk
          | 4, _, hk => exact hk
          | 5, _, hk => exact hk
          | 6, _, hk => exact hk
          | 7, _, hk => exact hk
          | 8, _, hk => exact hk
          | 9, _, hk => exact hk
        · obtain ⟨k, rfl⟩ : ∃ j, k = j + 12 := ⟨k - 12, by omega⟩
          exact hk
      refine Or.inr ⟨e, by omega, ?_, hk2⟩
      rintro ⟨z1, z2⟩
      obtain rfl : k = 9 := by omega
      have z3 : a9 = some u := Option.some.inj hk2
      rw [z3] at hn
      exact pm_nl_cat hn z2
theorem pm_st2_11 {a0 a1 a2 a3 a4 a5 a6 a7 a8 a9 a10 a11 a12 : Option pm_v} {r : List (Option pm_v)} {x : Int64} (hn : pm_nl a10 = true) : pm_st (a0 :: a1 :: a2 :: a3 :: a4 :: a5 :: a6 :: a7 :: a8 :: a9 :: a10 :: a11 :: a12 :: r) (a0 :: a1 :: a2 :: a3 :: a4 :: a5 :: a6 :: a7 :: a8 :: a9 :: a10 :: some (pJ x) :: none :: r) 11 (pJ x) := by
  refine ⟨rfl, by show 11 + 2 ≤ _; simp only [List.length_cons]; omega, fun k u hk => ?_⟩
  by_cases e : k = 11
  · subst e; exact Or.inl ⟨rfl, (Option.some.inj (Option.some.inj hk)).symm⟩
  · by_cases e1 : k = 12
    · subst e1; cases hk
    · have hk2 : (a0 :: a1 :: a2 :: a3 :: a4 :: a5 :: a6 :: a7 :: a8 :: a9 :: a10 :: a11 :: a12 :: r)[k]? = some (some u) := by
        rcases Nat.lt_or_ge k 11 with z | z
        · match k, z, hk with
          | 0, _, hk => exact hk
          | 1, _, hk => exact hk
          | 2, _, hk => exact hk
          | 3, _, hk => exact hk
          | 4, _, hk => exact hk
          | 5, _, hk => exact hk
          | 6, _, hk => exact hk
          | 7, _, hk => exact hk
          | 8, _, hk => exact hk
          | 9, _, hk => exact hk
          | 10, _, hk => exact hk
        · obtain ⟨k, rfl⟩ : ∃ j, k = j + 13 := ⟨k - 13, by omega⟩
          exact hk
      refine Or.inr ⟨e, by omega, ?_, hk2⟩
      rintro ⟨z1, z2⟩
      obtain rfl : k = 10 := by omega
      have z3 : a10 = some u := Option.some.inj hk2
      rw [z3] at hn
      exact pm_nl_cat hn z2
end PRT
