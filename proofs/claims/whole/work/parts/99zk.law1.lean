/-! the law's own walk: its rules -/
def R_law : String := "FreightShareLaw"
def lw_P (b : Addr) (xs : List Int32) (args : Array Value) (s : State) : Prop := args = #[.ref b] ∧ s.IntsAt b xs ∧ xs.length ≤ 3072 ∧ (Jvm.Cond.and given_1 narrow_1).before args s = true
def lw_Q (_ : Array Value) (s : State) (o : Outcome) (t : State) : Prop := o = .returned (some (.int 1)) ∧ Framed s o t [] 601024 7293034
def lw_Z (below : List Frame) (a : Array Value) (s : State) : State → Prop := fun t => ∃ o, t.status = .running ∧ Ended t below o ∧ lw_Q a s o t
/-- the law's own end, with 1 on the stack, nothing written that was there before, its room as the claim has it -/
theorem lw_ret {p : Program} {l : Launch} {e : Env} {s : State} {m : MethodId} {below : List Frame} {meth : Method} {c : Code} {b : Nat} (hx : p.tables.exec = Jvm.exec) (hb : c.code = code) (hr : meth.sig.returnType = ret) (hlocks : meth.locks = false) {pc : Nat} {H : Heap} {ls : Array Slot} (hdg : decode code pc = .ok (.ireturn, 1)) : W p l e room_1 s m #[Value.ref b] below meth c H [] 601024 7293034 (lw_Z below #[Value.ref b] s) (F0 m pc ls [.int 1]) := by
  intro T hT X
  obtain ⟨fs, hret, hrun, hended, hW, hframe⟩ := X.leave (v := some (.int 1)) (hlocks := hlocks) (fun h => by rw [hr] at h; cases h)
  have hmeth' : T.vm.method? m = some meth := X.method'
  refine ⟨T.setFrames fs, ?_, .returned (some (.int 1)), hrun, hended, rfl, ⟨_, rfl⟩, hW, hframe⟩
  jvm_step X.here [X.here.top, hx, hb, hdg, hmeth', hr, ret, narrow_b1]
  (try refine ⟨rfl, ?_⟩); (try refine ⟨rfl, ?_⟩)
  first | (intro acts; rw [hret _ acts rfl rfl rfl]) | rw [hret _ _ rfl rfl rfl]
  exact Steps.refl _
/-- what holds at the law's entry: the machine, the code, the tables' words (any of lw_tbl by 'hts w (by decide +kernel)'), the script of L ints xs at the cell b, what the Statement gives of the start (any of its parts by flat_of_before) -/
def lw_At (p : Program) (s : State) (m : MethodId) (meth : Method) (c : Code) (b L : Nat) (xs : Nat → Int32) : Prop :=
  p.tables.exec = Jvm.exec ∧ c.code = code ∧ meth.sig.returnType = ret ∧ c.maxLocals = 7 ∧ s.vm.findClass R_law = some m.cls ∧ (∀ w ∈ lw_tbl, w.before #[Value.ref b] s = true) ∧ va_X b L xs s s.heap ∧ b < s.heap.size ∧ meth.locks = false ∧ (Jvm.Cond.and given_1 narrow_1).before #[Value.ref b] s = true
section LAW
variable {p : Program} {l : Launch} {e : Env} {s : State} {m : MethodId} {below : List Frame} {meth : Method} {c : Code} {b L : Nat} {xs : Nat → Int32} {ad : pm_A} {D : va_G} {cs : Nat → ClassId}
/-- the law's surroundings behind its constructors -/
def lwC (p : Program) (l : Launch) (s : State) (m : MethodId) (meth : Method) (c : Code) (b L : Nat) (xs : Nat → Int32) (ad : pm_A) (D : va_G) (cs : Nat → ClassId) : Prop :=
  p.tables.exec = Jvm.exec ∧ c.code = code ∧ c.maxLocals = 7 ∧ s.vm.findClass RL = some m.cls ∧ pm_G l s #[Value.ref b] ad D cs ∧ meth.sig.returnType = ret ∧ meth.locks = false ∧ ad 99 300 = b ∧ b < s.heap.size ∧ va_X b L xs s s.heap ∧ L ≤ 3072
def LW (p : Program) (l : Launch) (e : Env) (s : State) (m : MethodId) (below : List Frame) (meth : Method) (c : Code) (b : Nat) (ad : pm_A) (D : va_G) (cs : Nat → ClassId) (ka sg pc : Nat) (ls : List (Option pm_v)) (st : List pm_v) (mem : pm_M) : Prop :=
  pm_W 7 p l e room_1 s m #[Value.ref b] below meth c ka sg (lw_Z below #[Value.ref b] s) s ad D cs pc ls st mem
def ex1 (q : Nat) (ls : List (Option pm_v)) (st : List pm_v) (mem : pm_M) : Nat → List (Option pm_v) → List pm_v → pm_M → Prop := fun a b c d => a = q ∧ b = ls ∧ c = st ∧ d = mem
variable {ka sg pc : Nat} {ls : List (Option pm_v)} {st : List pm_v} {mem : pm_M}
theorem lw_C (hC : lwC p l s m meth c b L xs ad D cs) (hk : ka ≤ 601024 ∧ sg ≤ 7293034) : pm_C code RL 7 13 472 p l room_1 s m c ka sg s #[Value.ref b] ad D cs := ⟨hC.1, hC.2.1, hC.2.2.1, hC.2.2.2.1, hC.2.2.2.2.1, pm_D.rf s, Nat.le_refl _, Nat.le_refl _, hk.1, hk.2⟩
theorem lw_go {X : Nat → List (Option pm_v) → List pm_v → pm_M → Prop} (hC : lwC p l s m meth c b L xs ad D cs) (hk : ka ≤ 601024 ∧ sg ≤ 7293034) (h : PR code RL 7 13 472 pc ls st mem X) (k : ∀ a b' c' d, X a b' c' d → LW p l e s m below meth c b ad D cs ka sg a b' c' d) : LW p l e s m below meth c b ad D cs ka sg pc ls st mem :=
  h p l e room_1 s m _ below meth c ka sg _ s _ ad D cs (lw_C hC hk) k
theorem lw_1 {q : Nat} {ls' : List (Option pm_v)} {st' : List pm_v} {mem' : pm_M} (hC : lwC p l s m meth c b L xs ad D cs) (hk : ka ≤ 601024 ∧ sg ≤ 7293034) (h : PR code RL 7 13 472 pc ls st mem (ex1 q ls' st' mem')) (k : LW p l e s m below meth c b ad D cs ka sg q ls' st' mem') : LW p l e s m below meth c b ad D cs ka sg pc ls st mem :=
  lw_go hC hk h (fun a b' c' d hx => by obtain ⟨rfl, rfl, rfl, rfl⟩ := hx; exact k)
/-- an entry of the script -/
theorem lw_ald {j q : Nat} (hC : lwC p l s m meth c b L xs ad D cs) (hj : j < L) (hd : decode code pc = .ok (.iaload, 1)) (hq : pc + 1 = q) (k : LW p l e s m below meth c b ad D cs ka sg q ls (pI (xs j) :: st) mem) : LW p l e s m below meth c b ad D cs ka sg pc ls (pI (nI j) :: pR 99 300 :: st) mem := by
  subst hq
  intro H locs la hl hs hH hS
  have hb0 : ad 99 300 = b := hC.2.2.2.2.2.2.2.1
  have h3 : L ≤ 3072 := hC.2.2.2.2.2.2.2.2.2.2
  show W _ _ _ _ _ _ _ _ _ _ _ _ _ _ _ (F0 m pc la (.int (nI j) :: .ref (ad 99 300) :: st.map (pm_mv ad)))
  rw [hb0]
  refine va_sld (A := fun q => s.heap.size ≤ q) hC.1 hC.2.1 hC.2.2.2.2.2.2.2.2.2.1 hC.2.2.2.2.2.2.2.2.1 (Nat.not_le.mpr hC.2.2.2.2.2.2.2.2.1) hS (vp_in_nI hj (by omega)) hd ?_
  rw [nI_clamp (by omega)]
  exact k H locs la hl ⟨trivial, hs.2.2⟩ hH hS
theorem lw_len {q : Nat} (hC : lwC p l s m meth c b L xs ad D cs) (hd : decode code pc = .ok (.arraylength, 1)) (hq : pc + 1 = q) (k : LW p l e s m below meth c b ad D cs ka sg q ls (pI (nI L) :: st) mem) : LW p l e s m below meth c b ad D cs ka sg pc ls (pR 99 300 :: st) mem := by
  subst hq
  intro H locs la hl hs hH hS
  have hb0 : ad 99 300 = b := hC.2.2.2.2.2.2.2.1
  show W _ _ _ _ _ _ _ _ _ _ _ _ _ _ _ (F0 m pc la (.ref (ad 99 300) :: st.map (pm_mv ad)))
  rw [hb0]
  exact va_slen (A := fun q => s.heap.size ≤ q) hC.1 hC.2.1 hC.2.2.2.2.2.2.2.2.2.1 hC.2.2.2.2.2.2.2.2.1 (Nat.not_le.mpr hC.2.2.2.2.2.2.2.2.1) hS hd (k H locs la hl ⟨trivial, hs.2⟩ hH hS)
/-- script[i + k] -/
theorem lw_arg {i k : Nat} {kk : Int} (q : Nat) (hC : lwC p l s m meth c b L xs ad D cs) (hk : ka ≤ 601024 ∧ sg ≤ 7293034) (d0 : decode code pc = .ok (.aload_n 0, 1)) (d1 : decode code (pc + 1) = .ok (.iload 4, 2)) (d3 : decode code (pc + 3) = .ok (.iconst kk, 1)) (d4 : decode code (pc + 4) = .ok (.iadd, 1)) (d5 : decode code (pc + 5) = .ok (.iaload, 1)) (hkk : Int32.ofInt kk = nI k)
    (h0 : ls[0]? = some (some (pR 99 300))) (h4 : ls[4]? = some (some (pI (nI i)))) (hi : i + k < L) (hq : pc + 6 = q) (kont : LW p l e s m below meth c b ad D cs ka sg q ls (pI (xs (i + k)) :: st) mem) : LW p l e s m below meth c b ad D cs ka sg pc ls st mem := by
  subst hq
  refine lw_1 hC hk (q := pc + 5) (pr_aload_n (pc + 1) d0 rfl h0 rfl (pr_iload (pc + 3) d1 h4 rfl (pr_iconst (nI k) (pc + 4) d3 hkk rfl (pr_iadd (pc + 5) d4 rfl (PR.done ⟨rfl, rfl, rfl, rfl⟩))))) ?_
  rw [nI_add]
  exact lw_ald hC hi d5 rfl kont
theorem lw_inv {idx t i : Nat} {y : MethodName} {bc : ByteArray} {mL n fr' lo' : Nat} {rt : Option FieldType} {Qr : Option pm_v → pm_M → Prop} {st0 : List pm_v} (as : List pm_v) (q : Nat) (hC : lwC p l s m meth c b L xs ad D cs) (hk : ka ≤ 601024 ∧ sg ≤ 7293034) (hd : decode code pc = .ok (.invokevirtual idx, 3)) (hw : pm_CV RL idx y t) (hm : pm_MW y bc mL rt n) (hc : Cl y bc mL rt fr' lo' (pR t i :: as) mem Qr) (hR : fr' + 1 ≤ 13 ∧ 8 + (mL + 11) + lo' ≤ 472) (hn : as.length = n) (hst : (st.map pm_cat).sum ≤ 8) (hst0 : st0 = as.reverse ++ pR t i :: st)
    (hq : pc + 3 = q) (kont : ∀ r mem', Qr r mem' → LW p l e s m below meth c b ad D cs ka sg q ls (r.toList ++ st) mem') : LW p l e s m below meth c b ad D cs ka sg pc ls st0 mem := by
  subst hst0
  refine lw_go hC hk (X := fun a b' c' d => a = q ∧ b' = ls ∧ ∃ r, c' = r.toList ++ st ∧ Qr r d) (pr_inv as q hd hw hm hc hR hn hst hq (fun r m' h => PR.done ⟨rfl, rfl, r, rfl, h⟩)) ?_
  rintro a b' c' d ⟨rfl, rfl, r, rfl, h⟩
  exact kont r d h
/-- a call of a static method with handlers -/
theorem lw_cy {idx : Nat} {y : MethodName} {bc : ByteArray} {mL n fr' lo' : Nat} {rt : Option FieldType} {hh : List (Nat × Nat × Nat × Nat)} {Qr : Option pm_v → pm_M → Prop} {st0 : List pm_v} (as : List pm_v) (q : Nat) (hC : lwC p l s m meth c b L xs ad D cs) (hk : ka + 1 ≤ 601024 ∧ sg + 6 ≤ 7293034) (hd : decode code pc = .ok (.invokestatic idx, 3)) (hw : pm_CS RL idx y) (hm : Cond.codeWith y bc mL rt hh ∈ lw_tbl ∧ Cond.initialized y.cls ∈ lw_tbl ∧ (y.cls ≠ "java/lang/invoke/MethodHandle" ∧ y.cls ≠ "java/lang/invoke/VarHandle") ∧ (parseMethodDescriptor y.desc).map (fun d => d.parameters.length) = some n)
    (hc : Cy y bc mL rt hh fr' lo' as mem Qr) (hR : fr' + 1 ≤ 13 ∧ 8 + (mL + 11) + lo' ≤ 472) (hn : as.length = n) (hst : (st.map pm_cat).sum ≤ 8) (hst0 : st0 = as.reverse ++ st)
    (hq : pc + 3 = q) (kont : ∀ r mem', Qr r mem' → LW p l e s m below meth c b ad D cs (ka + 1) (sg + 6) q ls (r.toList ++ st) mem') : LW p l e s m below meth c b ad D cs ka sg pc ls st0 mem := by
  subst hst0
  subst hq
  intro H locs la hl hs hH hS T hT Xs
  have hG := hC.2.2.2.2.1
  have hD : pm_D s s := pm_D.rf s
  have hDU : ∀ U : State, U.heap = H → s.WarmedH U.vm → pm_D s U := fun U hU hW => hD.step hW (by rw [hU]; exact hS.1) (fun z hz => by rw [hU]; exact hS.2.1 z hz (Nat.not_le.mpr hz))
  obtain ⟨hs1, hs2⟩ := pm_oks_app hs
  have has : pm_oks as := by have := pm_oks_rev hs1; rwa [List.reverse_reverse] at this
  have hcat : ((st.map (pm_mv ad)).map fun v => v.category).sum = (st.map pm_cat).sum := by
    rw [List.map_map]
    exact congrArg List.sum (List.map_congr_left (fun v _ => pm_mv_cat ad v))
  have hg : (as.reverse ++ st).map (pm_mv ad) = (as.map (pm_mv ad)).reverse ++ st.map (pm_mv ad) := by rw [List.map_append, List.map_reverse]
  have hrun := vx_runSW (p := p) (l := l) (e := e) (R := room_1) (s := s) (m := m) (args := #[Value.ref b]) (below := below) (meth := meth) (c := c) (H := H) (locs := locs) (cells := ka) (slots := sg) (As := as.map (pm_mv ad)) (n := n) (Ts := []) (rest := st.map (pm_mv ad)) (own := RL) (index := idx) (hh := hh) (bytes := bc) (maxL := mL) (ret := rt) (g := F0 m pc la ((as.reverse ++ st).map (pm_mv ad))) ⟨hC.1, hC.2.1, hC.2.2.1, hC.2.2.2.1, fun _ h => by cases h⟩ (hc l s #[Value.ref b] ad D cs hG)
    ⟨⟨rfl, rfl, hR.1, hR.2, fun z hz a' U hW => (by rw [List.mem_singleton.mp hz]; exact word_at hW (good_of_word rfl) (hG.2.1 _ hm.1)), List.mem_cons_self⟩, pm_word hG hD _ rfl hm.1, pm_word hG hD _ rfl hm.2.1, hm.2.2.1, fun sig h => (by have h2 := hm.2.2.2; rw [h] at h2; exact (Option.some.inj h2).symm), pm_word hG hD _ rfl hw.1, pm_word hG hD _ rfl hw.2⟩
    ⟨pm_blind, fun U hU hW => ⟨rfl, has, hDU U hU hW, by rw [hU]; exact hH⟩⟩ rfl (by rw [List.length_map]; exact hn) hl.1 hg (lv_room (by rw [hcat]; exact hst)) hd hk
  obtain ⟨v, st₀, t, T', L', h0, X', hL, e1, e2, ⟨r, mem', hQ, hv, hok, hH', hz, hkp⟩, go⟩ := hrun T hT Xs
  rw [h0] at hz hkp
  have hvv : v = r.map (pm_mv ad) := by injection hv
  have hS' : va_S (fun q => s.heap.size ≤ q) s.heap T'.heap (locs ++ L') := ⟨Nat.le_trans hS.1 (by rw [e1]; exact hz), fun z h1 h2 => by rw [e1, hkp z (Nat.lt_of_lt_of_le h1 hS.1) h2]; exact hS.2.1 z h1 h2, fun z hz => by
    rcases List.mem_append.mp hz with h | h
    · exact hS.2.2 z h
    · exact hL z h⟩
  have hoks : pm_oks (r.toList ++ st) := by
    cases r with
    | none => exact hs2
    | some v => exact ⟨hok v rfl, hs2⟩
  obtain ⟨t2, a1, b1⟩ := kont r mem' hQ T'.heap (locs ++ L') la hl hoks (by rw [e1]; exact hH') hS' T' rfl X'
  refine ⟨t2, go t2 ?_, b1⟩
  rw [hvv]
  cases r with
  | none => exact a1
  | some v => exact a1
theorem lw_cmp {i : Nat} (hL : L ≤ 3072) (hi : i ≤ 3072) : nI L - 6 < nI i ↔ L < i + 6 := by
  by_cases h : 6 ≤ L
  · rw [show nI L - 6 = nI (L - 6) from nI_subN h, nI_ltI (by omega) (by omega)]
    omega
  · have hz : nI L - 6 < 0 := by
      rcases (by omega : L = 0 ∨ L = 1 ∨ L = 2 ∨ L = 3 ∨ L = 4 ∨ L = 5) with rfl | rfl | rfl | rfl | rfl | rfl <;> decide
    exact ⟨fun _ => by omega, fun _ => Int32.lt_of_lt_of_le hz (nI_pos' (by omega))⟩
/-- the law's end -/
theorem lw_fin {H : Heap} {locs : List Loc} {la : Array Slot} (hC : lwC p l s m meth c b L xs ad D cs) (hk : ka ≤ 601024 ∧ sg ≤ 7293034) (hf : ∀ q ∈ locs, s.heap.size ≤ q.base) (hd : decode code pc = .ok (.ireturn, 1)) : W p l e room_1 s m #[Value.ref b] below meth c H locs ka sg (lw_Z below #[Value.ref b] s) (F0 m pc la [.int 1]) :=
  va_forget hf (W.widen hk.1 hk.2 (lw_ret hC.1 hC.2.1 hC.2.2.2.2.2.1 hC.2.2.2.2.2.2.1 hd))
end LAW
