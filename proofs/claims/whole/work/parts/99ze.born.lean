/-! constructors: the object, the cells that were made behind it, in their order -/
def pcG (S0 : State) (a0 : Array Value) (D : va_G) (cs : Nat → ClassId) : Prop := (∀ w ∈ lw_tbl, w.before a0 S0 = true) ∧ va_K D vwCl [(cs 0, .int), (cs 1, .byte), (cs 2, .long), (cs 3, .array .int)] S0
theorem pcw {S0 U : State} {a0 : Array Value} {D : va_G} {cs : Nat → ClassId} (hG : pcG S0 a0 D cs) (hD : pm_D S0 U) (a : Array Value) {w : Cond} (hg : goodWord w = true) (hw : w ∈ lw_tbl) : w.before a U = true := word_at hD.1 (good_of_word hg) (hG.1 w hw)
/-- behind a heap Hs: the object at a, the cells from Hs's end on, nothing else is other -/
def bH (D : va_G) (Hs : Heap) (a ci : Nat) (fs : List Value) (cl : List va_E) (H : Heap) : Prop :=
  H.size = Hs.size + cl.length ∧ va_at D vwCl (a, .inr (ci, fs)) H ∧ (∀ (i : Nat) (x : va_E), cl[i]? = some x → va_at D vwCl (Hs.size + i, x) H) ∧ ∀ q : Nat, q < Hs.size → ¬ q = a → H[q]? = Hs[q]?
theorem bH.app {D : va_G} {Hs H H1 : Heap} {a ci : Nat} {fs : List Value} {cl new : List va_E} (h : bH D Hs a ci fs cl H) (ha : a < Hs.size) (hz : H1.size = H.size + new.length) (ho : ∀ q : Nat, q < H.size → H1[q]? = H[q]?) (hn : ∀ (i : Nat) (x : va_E), new[i]? = some x → va_at D vwCl (H.size + i, x) H1) : bH D Hs a ci fs (cl ++ new) H1 := by
  obtain ⟨h1, h2, h3, h4⟩ := h
  refine ⟨by rw [hz, h1, List.length_append]; omega, h2.kept (ho a (by omega)), fun i x hx => ?_, fun q hq hqa => (ho q (by omega)).trans (h4 q hq hqa)⟩
  by_cases hi : i < cl.length
  · rw [List.getElem?_append_left hi] at hx
    exact (h3 i x hx).kept (ho _ (by show Hs.size + i < H.size; omega))
  · rw [List.getElem?_append_right (by omega)] at hx
    have := hn _ _ hx
    rw [h1, show Hs.size + cl.length + (i - cl.length) = Hs.size + i by omega] at this
    exact this
theorem one_at {x y : va_E} {i : Nat} (h : [x][i]? = some y) : i = 0 ∧ x = y := by
  have hz : i < 1 := (List.getElem?_eq_some_iff.mp h).1
  have e : i = 0 := by omega
  subst e
  exact ⟨rfl, Option.some.inj h⟩
section BRN
variable {cc : ByteArray} {own : String} {nL : Nat} {p : Program} {l : Launch} {e : Env} {R : Room} {s : State} {m : MethodId} {args : Array Value} {below : List Frame} {meth : Method} {c : Code} {Q : State → Prop} {S0 : State} {a0 : Array Value} {D : va_G} {cs : Nat → ClassId} {a ci : Nat}
def bC (cc : ByteArray) (own : String) (nL : Nat) (p : Program) (s : State) (m : MethodId) (meth : Method) (c : Code) (S0 : State) (a0 : Array Value) (D : va_G) (cs : Nat → ClassId) (a : Nat) : Prop :=
  p.tables.exec = Jvm.exec ∧ c.code = cc ∧ c.maxLocals = nL ∧ s.vm.findClass own = some m.cls ∧ pcG S0 a0 D cs ∧ pm_D S0 s ∧ meth.name = "<init>" ∧ S0.heap.size ≤ a ∧ a < s.heap.size
def bW (nL : Nat) (p : Program) (l : Launch) (e : Env) (R : Room) (s : State) (m : MethodId) (args : Array Value) (below : List Frame) (meth : Method) (c : Code) (Q : State → Prop) (S0 : State) (D : va_G) (a ci : Nat) (pc : Nat) (lv : List (Nat × Value)) (st : List Value) (fs : List Value) (cl : List va_E) (ka sg : Nat) : Prop :=
  ∀ (H : Heap) (locs : List Loc) (la : Array Slot), lv_has la nL lv → bH D s.heap a ci fs cl H → (∀ z ∈ locs, S0.heap.size ≤ z.base) → W p l e R s m args below meth c H locs ka sg Q (F0 m pc la st)
variable {pc : Nat} {lv : List (Nat × Value)} {st fs : List Value} {cl : List va_E} {ka sg : Nat}
theorem b_aload_n {k4 : Fin 4} {i x j : Nat} (q : Nat) (hC : bC cc own nL p s m meth c S0 a0 D cs a) (hd : decode cc pc = .ok (.aload_n k4, 1)) (hi : (k4 : Nat) = i) (hx : lv[j]? = some (i, .ref x)) (hq : pc + 1 = q) (k : bW nL p l e R s m args below meth c Q S0 D a ci q lv (.ref x :: st) fs cl ka sg) : bW nL p l e R s m args below meth c Q S0 D a ci pc lv st fs cl ka sg := by
  subst hq
  exact fun H locs la hl hH hL => lv_aload_n hC.1 hC.2.1 hd hi (lv_at hl j hx) (k H locs la hl hH hL)
theorem b_iconst {n : Int} (v : Int32) (q : Nat) (hC : bC cc own nL p s m meth c S0 a0 D cs a) (hd : decode cc pc = .ok (.iconst n, 1)) (hv : Int32.ofInt n = v) (hq : pc + 1 = q) (k : bW nL p l e R s m args below meth c Q S0 D a ci q lv (.int v :: st) fs cl ka sg) : bW nL p l e R s m args below meth c Q S0 D a ci pc lv st fs cl ka sg := by
  subst hq
  exact fun H locs la hl hH hL => lv_iconst hC.1 hC.2.1 hd hv (k H locs la hl hH hL)
theorem b_bipush {n : Int} (v : Int32) (q : Nat) (hC : bC cc own nL p s m meth c S0 a0 D cs a) (hd : decode cc pc = .ok (.bipush n, 2)) (hv : (Int8.ofInt n).toInt32 = v) (hq : pc + 2 = q) (k : bW nL p l e R s m args below meth c Q S0 D a ci q lv (.int v :: st) fs cl ka sg) : bW nL p l e R s m args below meth c Q S0 D a ci pc lv st fs cl ka sg := by
  subst hq
  exact fun H locs la hl hH hL => lv_bipush hC.1 hC.2.1 hd hv (k H locs la hl hH hL)
theorem b_sipush {n : Int} (v : Int32) (q : Nat) (hC : bC cc own nL p s m meth c S0 a0 D cs a) (hd : decode cc pc = .ok (.sipush n, 3)) (hv : (Int16.ofInt n).toInt32 = v) (hq : pc + 3 = q) (k : bW nL p l e R s m args below meth c Q S0 D a ci q lv (.int v :: st) fs cl ka sg) : bW nL p l e R s m args below meth c Q S0 D a ci pc lv st fs cl ka sg := by
  subst hq
  exact fun H locs la hl hH hL => lv_sipush hC.1 hC.2.1 hd hv (k H locs la hl hH hL)
theorem b_dup {v : Value} (q : Nat) (hC : bC cc own nL p s m meth c S0 a0 D cs a) (hd : decode cc pc = .ok (.dup, 1)) (hv : v.category = 1) (hq : pc + 1 = q) (k : bW nL p l e R s m args below meth c Q S0 D a ci q lv (v :: v :: st) fs cl ka sg) : bW nL p l e R s m args below meth c Q S0 D a ci pc lv (v :: st) fs cl ka sg := by
  subst hq
  exact fun H locs la hl hH hL => lv_dup hC.1 hC.2.1 hd hv (k H locs la hl hH hL)
theorem b_obj {idx x : Nat} (q : Nat) (hC : bC cc own nL p s m meth c S0 a0 D cs a) (hd : decode cc pc = .ok (.invokespecial idx, 3)) (hw : Cond.methodLink own idx Lib.objectInit ∈ lw_tbl) (h1 : Cond.instanceMethod Lib.objectInit ∈ lw_tbl) (h2 : Cond.code Lib.objectInit { data := #[177] } 1 none ∈ lw_tbl) (hst : st = []) (hR : 1 ≤ R.frames ∧ 12 ≤ R.locals) (hq : pc + 3 = q) (k : bW nL p l e R s m args below meth c Q S0 D a ci q lv st fs cl ka sg) : bW nL p l e R s m args below meth c Q S0 D a ci pc lv (.ref x :: st) fs cl ka sg := by
  subst hq
  subst hst
  exact fun H locs la hl hH hL => W.objInit hC.1 hC.2.1 hC.2.2.2.1 (pcw hC.2.2.2.2.1 hC.2.2.2.2.2.1 _ rfl hw) (pcw hC.2.2.2.2.1 hC.2.2.2.2.2.1 _ rfl h1) (pcw hC.2.2.2.2.1 hC.2.2.2.2.2.1 _ rfl h2) rfl (hl.1.trans hC.2.2.1.symm) rfl hd hR.1 (by show 0 + 12 ≤ R.locals; omega) (k H locs la hl hH hL)
theorem pc_K (hC : bC cc own nL p s m meth c S0 a0 D cs a) : va_K D vwCl [(cs 0, .int), (cs 1, .byte), (cs 2, .long), (cs 3, .array .int)] s := va_K.moved hC.2.2.2.2.2.1.1.alike hC.2.2.2.2.1.2
/-- a new row of numbers; z: which class of rows -/
theorem b_newa {atype : ArrayType} {n : Int32} {N z : Nat} {ty : FieldType} (q : Nat) (hC : bC cc own nL p s m meth c S0 a0 D cs a) (hd : decode cc pc = .ok (.newarray atype, 2)) (hty : newarray.typeOf atype = ty) (hz : [(cs 0, FieldType.int), (cs 1, .byte), (cs 2, .long), (cs 3, .array .int)][z]? = some (cs z, ty)) (hra : va_RA s (cs z) ty → s.vm.findClass ("[" ++ ty.toString) = some (cs z)) (hw : Cond.arrayClass ty ∈ lw_tbl) (x : va_E) (hx : ∀ H1 : Heap, ∀ h : Nat, H1[h]? = some (arrV (cs z) N (fun _ => defaultValue ty)) → va_at D vwCl (h, x) H1)
    (hn : ¬ n < 0) (hN : n.toNatClampNeg = N) (hby : N * componentBytes ty ≤ 536870912) (hR : ka + 1 ≤ R.cells ∧ sg + N ≤ R.slots) (hq : pc + 2 = q) (k : bW nL p l e R s m args below meth c Q S0 D a ci q lv (.ref (s.heap.size + cl.length) :: st) fs (cl ++ [x]) (ka + 1) (sg + N)) : bW nL p l e R s m args below meth c Q S0 D a ci pc lv (.int n :: st) fs cl ka sg := by
  subst hq
  subst hty
  intro H locs la hl hH hL
  refine va_newaK hC.1 hC.2.1 (pcw hC.2.2.2.2.1 hC.2.2.2.2.2.1 _ rfl hw) rfl hd rfl hn hN hby hR.1 hR.2 (h := s.heap.size + cl.length) hH.1 fun H1 cA e1 z1 o1 _ hNm => ?_
  have hcA : cA = cs z := by
    have := hra ((pc_K hC).2 z _ hz).2
    exact Option.some.inj (hNm.symm.trans this)
  subst hcA
  refine k H1 locs la hl (bH.app hH hC.2.2.2.2.2.2.2.2 (by rw [z1, hH.1]; rfl) (fun q hq => o1 q (by rw [← hH.1]; exact hq)) (fun i y hy => ?_)) hL
  obtain ⟨rfl, rfl⟩ := one_at hy
  rw [hH.1]
  exact hx H1 _ e1
theorem b_get {idx k x : Nat} {v : Value} {w : vw_C} (q : Nat) (hC : bC cc own nL p s m meth c S0 a0 D cs a) (hd : decode cc pc = .ok (.getfield idx, 3)) (hw : vwCl[ci]? = some w) (hk : k < w.2.2) (hlk : Cond.fieldLink own idx (w.2.1 k).1 (w.2.1 k).2.1 (w.2.1 k).2.2.1 ∈ lw_tbl) (hv : vp_V fs k = v) (hxa : x = a) (hq : pc + 3 = q) (kk : bW nL p l e R s m args below meth c Q S0 D a ci q lv (v :: st) fs cl ka sg) : bW nL p l e R s m args below meth c Q S0 D a ci pc lv (.ref x :: st) fs cl ka sg := by
  subst hq
  subst hxa
  intro H locs la hl hH hL
  obtain ⟨hx, hb2, hml, hown, hG, hD, hnm0, hSa, haS⟩ := hC
  obtain ⟨hN, hu, ty0, hty, hnm⟩ := pm_cls _ _ hw
  have hts : ∀ z ∈ u_ws w.1 w.2.1 w.2.2, z.before args s = true := fun w' hw' => pcw hG hD _ (pm_uw hw') (hu w' hw')
  have hK : va_K D vwCl [(cs 0, .int), (cs 1, .byte), (cs 2, .long), (cs 3, .array .int)] s := va_K.moved hD.1.alike hG.2
  obtain ⟨r, hr1, cell, q1, q2, q3, q4⟩ := hH.2.1
  have hr : r = w := Option.some.inj (hr1.symm.trans hw)
  subst hr
  obtain ⟨hS, hfc, kC, hkC, hkind⟩ := hK.1 _ _ hw
  obtain ⟨cf, kf, fi, f, hfi, hsl⟩ := hS k hk
  have hst := (u_facts hfc hkC (u_lays hts (fun _ h => h) hk) hfi).1
  refine W.getf hx hb2 hown (pcw hG hD _ rfl hlk) hfi hst q1 (by rw [q3]; exact fun h => by cases h) (v := v) ?_ rfl rfl hd (kk H locs la hl hH hL)
  rw [hsl, q4 k hk]
  exact congrArg some hv
/-- a field of the object is written, final or not -/
theorem b_put {idx k x : Nat} {v : Value} {w : vw_C} {ty : FieldType} (q : Nat) (hC : bC cc own nL p s m meth c S0 a0 D cs a) (hd : decode cc pc = .ok (.putfield idx, 3)) (hw : vwCl[ci]? = some w) (hk : k < w.2.2) (hlk : Cond.fieldLink own idx (w.2.1 k).1 (w.2.1 k).2.1 (w.2.1 k).2.2.1 ∈ lw_tbl)
    (hdecl : (w.2.1 k).1 = own) (hdesc : parseFieldDescriptor (w.2.1 k).2.2.1 = some ty) (hnar : narrow ty v = v) (hfit : fits ty v = true) (hfl : k < fs.length) (hxa : x = a) (hq : pc + 3 = q) (kk : bW nL p l e R s m args below meth c Q S0 D a ci q lv st (fs.set k v) cl ka sg) : bW nL p l e R s m args below meth c Q S0 D a ci pc lv (v :: .ref x :: st) fs cl ka sg := by
  subst hq
  subst hxa
  intro H locs la hl hH hL
  obtain ⟨hx, hb2, hml, hown, hG, hD, hnm0, hSa, haS⟩ := hC
  obtain ⟨hN, hu, ty0, hty, hnm⟩ := pm_cls _ _ hw
  have hts : ∀ z ∈ u_ws w.1 w.2.1 w.2.2, z.before args s = true := fun w' hw' => pcw hG hD _ (pm_uw hw') (hu w' hw')
  have hK : va_K D vwCl [(cs 0, .int), (cs 1, .byte), (cs 2, .long), (cs 3, .array .int)] s := va_K.moved hD.1.alike hG.2
  have hap := va_apart (own := own) hts (fun _ h => h) ty0 hty hnm hK hw
  obtain ⟨r, hr1, cell, q1, q2, q3, q4⟩ := hH.2.1
  have hr : r = w := Option.some.inj (hr1.symm.trans hw)
  subst hr
  obtain ⟨hS, hfc, kC, hkC, hkind⟩ := hK.1 _ _ hw
  obtain ⟨cf, kf, fi, f, hfi, hsl⟩ := hS k hk
  have hlay := hts _ (u_in_lay hk)
  have hst := (u_facts hfc hkC (u_lays hts (fun _ h => h) hk) hfi).1
  have fin : ∀ H' : Heap, H'[x]? = some (cell.setSlot (D.2 ci k) v) → H'.size = H.size → (∀ q : Addr, q ≠ x → H'[q]? = H[q]?) → bH D s.heap x ci (fs.set k v) cl H' := by
    intro H' e1 e2 e3
    refine ⟨by rw [e2]; exact hH.1, ⟨_, hw, t_OB.to (V := updV (vp_V fs) k v) ⟨_, e1, q2, q3, t_set q4 hap hk v⟩ (fun j _ => vp_updV_set hfl v j)⟩, fun i y hy => (hH.2.2.1 i y hy).kept (e3 _ (by show ¬ s.heap.size + i = x; omega)), fun q hq hqa => (e3 q hqa).trans (hH.2.2.2 q hq hqa)⟩
  unfold u_lay at hlay
  by_cases hf : (r.2.1 k).2.2.2 = true
  · rw [if_pos hf] at hlay
    have hcf : m.cls = cf := by
      obtain ⟨_, _, c', _, _, _, -, -, hf', -, -, -, hown2, -⟩ := Cond.laysFinal_spec hlay
      have e1 : c' = cf := by have := hfi.symm.trans hf'; simp at this; exact this.1.symm
      rw [hdecl] at hown2
      rw [← e1]; exact Option.some.inj (hown.symm.trans hown2)
    have h6 := u_fits hfc hkC hkind (Or.inr hlay) hfi hdesc hnar hfit
    refine W.putFinK hx hb2 hown (pcw hG hD _ rfl hlk) hfi hst hcf hnm0 (by rw [q2]; exact h6) q1 q3 (by rw [hsl]; exact k2_hasslot (q4 k hk)) rfl rfl hd fun H' e1 e2 e3 => ?_
    rw [hsl] at e1 ⊢
    exact kk H' _ la hl (fin H' e1 e2 e3) (fun z hz => by
      rcases List.mem_append.mp hz with h | h
      · exact hL z h
      · rw [List.mem_singleton.mp h]; exact hSa)
  · rw [if_neg hf] at hlay
    have h6 := u_store hfc hkC hkind hlay hfi hdesc hnar hfit
    refine W.putK hx hb2 (f := f) ⟨hown, pcw hG hD _ rfl hlk, ⟨_, _, _, hfi⟩, hst⟩ (by rw [q2]; exact h6) q1 q3 (by rw [hsl]; exact k2_hasslot (q4 k hk)) rfl rfl hd fun H' e1 e2 e3 => ?_
    rw [hsl] at e1 ⊢
    exact kk H' _ la hl (fin H' e1 e2 e3) (fun z hz => by
      rcases List.mem_append.mp hz with h | h
      · exact hL z h
      · rw [List.mem_singleton.mp h]; exact hSa)
end BRN
