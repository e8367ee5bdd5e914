/-! constructors: new, rows of rows, calls -/
/-- a constructor: the object as new, what it holds behind, which cells were made -/
def Ct (y : MethodName) (bc : ByteArray) (mL ci : Nat) (dfl : List Value) (n sl fr lo : Nat) (xs : List Value) (fsC : Nat → List Value) (cC : (Nat → ClassId) → Nat → List va_E) : Prop :=
  ∀ (l : Launch) (S0 : State) (a0 : Array Value) (D : va_G) (cs : Nat → ClassId), pcG S0 a0 D cs → ∀ a : Nat,
    Met l y [Cond.code y bc mL none] { frames := fr, cells := n, slots := sl, locals := lo } (fun A U => A = (Value.ref a :: xs).toArray ∧ pm_D S0 U ∧ S0.heap.size ≤ a ∧ a < U.heap.size ∧ va_at D vwCl (a, .inr (ci, dfl)) U.heap) (fun _ st oc t => oc = .returned none ∧ bH D st.heap a ci (fsC st.heap.size) (cC cs st.heap.size) t.heap) n sl (fun q => S0.heap.size ≤ q)
section BRN2
variable {cc : ByteArray} {own : String} {nL : Nat} {p : Program} {l : Launch} {e : Env} {R : Room} {s : State} {m : MethodId} {args : Array Value} {below : List Frame} {meth : Method} {c : Code} {Q : State → Prop} {S0 : State} {a0 : Array Value} {D : va_G} {cs : Nat → ClassId} {a ci : Nat}
variable {pc : Nat} {lv : List (Nat × Value)} {st fs : List Value} {cl : List va_E} {ka sg : Nat}
theorem b_new {idx ci' : Nat} {w : vw_C} (dfl : List Value) (q : Nat) (hC : bC cc own nL p s m meth c S0 a0 D cs a) (hd : decode cc pc = .ok (.new idx, 3)) (hw : vwCl[ci']? = some w) (hlk : Cond.classLink own idx w.1 ∈ lw_tbl) (hin : Cond.instantiable w.1 w.2.2 ∈ lw_tbl) (hini : Cond.initialized w.1 ∈ lw_tbl) (ty : Nat → FieldType) (hty : ∀ k, k < w.2.2 → parseFieldDescriptor (w.2.1 k).2.2.1 = some (ty k)) (hfs : ∀ j, j < w.2.2 → defaultValue (ty j) = vp_V dfl j) (hR : ka + 1 ≤ R.cells ∧ sg + w.2.2 ≤ R.slots) (hq : pc + 3 = q)
    (k : bW nL p l e R s m args below meth c Q S0 D a ci q lv (.ref (s.heap.size + cl.length) :: st) fs (cl ++ [.inr (ci', dfl)]) (ka + 1) (sg + w.2.2)) : bW nL p l e R s m args below meth c Q S0 D a ci pc lv st fs cl ka sg := by
  subst hq
  intro H locs la hl hH hL
  have hK := pc_K hC
  obtain ⟨hx, hb2, hml, hown, hG, hD, hnm0, hSa, haS⟩ := hC
  obtain ⟨hN, hu, -, -, -⟩ := pm_cls _ _ hw
  have hts : ∀ z ∈ u_ws w.1 w.2.1 w.2.2, z.before args s = true := fun w' hw' => pcw hG hD _ (pm_uw hw') (hu w' hw')
  have hKn := hK.1 _ _ hw
  refine W.newcK hx hb2 hown (pcw hG hD _ rfl hlk) (pcw hG hD _ rfl hin) (pcw hG hD _ rfl hini) rfl hd hR.1 hR.2 hKn.2.1 (h := s.heap.size + cl.length) hH.1 fun H1 kC hkC e1 z1 o1 => ?_
  refine k H1 locs la hl (bH.app hH haS (by rw [z1, hH.1]; rfl) (fun q hq => o1 q (by rw [← hH.1]; exact hq)) (fun i y hy => ?_)) hL
  obtain ⟨rfl, rfl⟩ := one_at hy
  rw [hH.1]
  exact ⟨w, hw, (u_born ty hts (fun _ h => h) hKn hkC e1 hty).to hfs⟩
theorem pc_over (hG : pcG S0 a0 D cs) (hD : pm_D S0 s) (hw : Cond.arrayOver (.array .int) ∈ lw_tbl) : (Cond.arrayOver (.array .int)).before args s = true := by
  have h := hG.1 _ hw
  rw [← Cond.arrayOver_setVmC (vm' := s.vm) hD.1.alike] at h
  exact h
theorem ao_spec {A : Array Value} {u : State} (h : (Cond.arrayOver (.array .int)).before A u = true) : ∃ (comp cA : ClassId) (k : Class), u.vm.findClass "[I" = some comp ∧ u.vm.classes[cA]? = some k ∧ k.kind = .array comp (.array .int) ∧ u.vm.findClass "[[I" = some cA := by
  have h' : (Cond.arrayOver (.array .int)).holds A u none u [] = true := h
  simp only [Cond.holds, Cond.value, beq_iff_eq] at h'
  have e1 : (FieldType.array FieldType.int).toString = "[I" := rfl
  have e2 : "[" ++ (FieldType.array FieldType.int).toString = "[[I" := rfl
  rw [e2, e1] at h'
  rcases hc : u.vm.findClass "[I" with _ | comp
  · simp [hc] at h'
  · simp only [hc, Option.bind_some, Option.bind_eq_some_iff, Option.map_eq_some_iff] at h'
    obtain ⟨cA, hi, k, hk, hb⟩ := h'
    obtain ⟨hlt, hp, -⟩ := Array.findIdx?_eq_some_iff_getElem.mp hi
    rw [(Array.getElem?_eq_some_iff.mp hk).2] at hp
    rcases hkd : k.kind with _ | ⟨component, ty⟩ | _
    all_goals rw [hkd] at hb hp
    all_goals simp at hb hp
    exact ⟨comp, cA, k, rfl, hk, by rw [hkd, hp, hb.1], hb.2⟩
/-- rows of rows, as the machine fills them: the outer cell with its first i rows; the state behind it -/
def grO (cA : ClassId) (N h i : Nat) : Cell := arrV cA N (fun j => va_rf (if j < i then some (h + 1 + j) else none))
def grI (cI : ClassId) (M : Nat) : Cell := arrV cI M (fun _ => .int 0)
def grF (T : State) (cA cI : ClassId) (N M : Nat) : Nat → State
  | 0 => T.pushCell (grO cA N T.heap.size 0)
  | i + 1 => ((grF T cA cI N M i).pushCell (grI cI M)).setCell T.heap.size (grO cA N T.heap.size (i + 1))
theorem grO_0 (cA : ClassId) (N h : Nat) : grO cA N h 0 = { cls := cA, slots := Array.replicate N .null, vm := .none } := by
  rw [grO, arrV_new]
  refine congrArg (arrV cA N) (funext fun j => ?_)
  simp [va_rf]
theorem grO_s (cA : ClassId) (N h i : Nat) : (grO cA N h i).setSlot i (.ref (h + 1 + i)) = grO cA N h (i + 1) := by
  rw [grO, grO, arrV_store]
  refine congrArg (arrV cA N) (funext fun j => ?_)
  by_cases ej : j = i
  · subst ej
    simp [updV, va_rf]
  · by_cases hj : j < i
    · simp [updV, ej, hj, Nat.lt_succ_of_lt hj]
    · simp [updV, ej, hj, show ¬ j < i + 1 by omega]
theorem grO_z (cA : ClassId) (N h i : Nat) : (grO cA N h i).cls = cA ∧ (grO cA N h i).vm = .none ∧ (grO cA N h i).slots.size = N := ⟨rfl, rfl, arrV_size _ _ _⟩
section GFS
variable (T : State) (cA cI : ClassId) (N M : Nat)
theorem grF_z : ∀ i, (grF T cA cI N M i).heap.size = T.heap.size + 1 + i ∧ (grF T cA cI N M i).heap[T.heap.size]? = some (grO cA N T.heap.size i) ∧ (grF T cA cI N M i).vm = T.vm ∧ (grF T cA cI N M i).slotsUsed = T.slotsUsed + N + i * M
  | 0 => ⟨by simp [grF], by simp [grF], rfl, by simp [grF, (grO_z cA N T.heap.size 0).2.2]⟩
  | i + 1 => by
    obtain ⟨h1, h2, h3, h4⟩ := grF_z i
    have hlt : T.heap.size < (grF T cA cI N M i).heap.size := by omega
    have hb : ((grF T cA cI N M i).pushCell (grI cI M)).heap[T.heap.size]? = some (grO cA N T.heap.size i) := by rw [State.heap_pushCell_of_lt (h := hlt)]; exact h2
    refine ⟨?_, State.heap_setCell_self hb, by simp [grF, h3], ?_⟩
    · simp [grF, State.setCell, h1]; omega
    · simp [grF, h4, grI, arrV_size, Nat.succ_mul]; omega
theorem grF_top (f : JFrame) : ∀ i, grF (T.setTop f) cA cI N M i = (grF T cA cI N M i).setTop f
  | 0 => rfl
  | i + 1 => by simp only [grF, grF_top f i, State.heap_setTop, State.pushCell_setTop, State.setCell_setTop]
theorem grF_old {x : Addr} (hx : x < T.heap.size) : ∀ i, (grF T cA cI N M i).heap[x]? = T.heap[x]?
  | 0 => State.heap_pushCell_of_lt _ _ hx
  | i + 1 => by
    have h1 := (grF_z T cA cI N M i).1
    have hlt : x < (grF T cA cI N M i).heap.size := Nat.lt_of_lt_of_le hx (by omega)
    show (((grF T cA cI N M i).pushCell (grI cI M)).setCell T.heap.size _).heap[x]? = _
    rw [State.heap_setCell_other (Nat.ne_of_gt hx), State.heap_pushCell_of_lt (h := hlt)]
    exact grF_old hx i
theorem grF_row : ∀ i j, j < i → (grF T cA cI N M i).heap[T.heap.size + 1 + j]? = some (grI cI M)
  | 0, _, hj => absurd hj (Nat.not_lt_zero _)
  | i + 1, j, hj => by
    have h1 := (grF_z T cA cI N M i).1
    show (((grF T cA cI N M i).pushCell (grI cI M)).setCell T.heap.size _).heap[T.heap.size + 1 + j]? = _
    rw [State.heap_setCell_other (Nat.ne_of_lt (show T.heap.size < T.heap.size + 1 + j by omega))]
    rcases Nat.lt_or_ge j i with hji | hji
    · have hlt : T.heap.size + 1 + j < (grF T cA cI N M i).heap.size := by omega
      rw [State.heap_pushCell_of_lt (h := hlt)]
      exact grF_row i j hji
    · have ej : j = i := by omega
      subst ej
      rw [← h1]
      exact State.heap_pushCell_size _ _
end GFS
theorem grF_stand {locs : List Loc} {cells slots : Nat} {T : State} (X : Stand p l e R s m args below meth c T locs cells slots) (cA cI : ClassId) (N M : Nat) : ∀ i, Stand p l e R s m args below meth c (grF T cA cI N M i) locs (cells + 1 + i) (slots + N + i * M)
  | 0 => by
    have h := X.pushed (grO cA N T.heap.size 0)
    rw [(grO_z cA N T.heap.size 0).2.2] at h
    simpa [grF] using h
  | i + 1 => by
    have Xi := grF_stand X cA cI N M i
    obtain ⟨h1, h2, h3, h4⟩ := grF_z T cA cI N M i
    have hlt : T.heap.size < (grF T cA cI N M i).heap.size := by omega
    have hcell : ((grF T cA cI N M i).pushCell (grI cI M)).heap[T.heap.size]? = some (grO cA N T.heap.size i) := by rw [State.heap_pushCell_of_lt (h := hlt)]; exact h2
    have h := ((Xi.pushed (grI cI M)).stored hcell i (.ref (T.heap.size + 1 + i))).dropFresh (fun x hx => by rw [List.mem_singleton.mp hx]; exact X.heapGrown)
    rw [grO_s, show (grI cI M).slots.size = M from arrV_size _ _ _] at h
    rw [show slots + N + (i + 1) * M = slots + N + i * M + M by rw [Nat.succ_mul]; omega]
    exact h
section GWP
variable {E : CtlPost} {d : Bool} {acts : List Action} {u : State}
theorem g_newArray {cA comp : ClassId} {k : Class} {type : FieldType} {len : Nat} {init : Value} (hk : u.vm.classes[cA]? = some k) (hkind : k.kind = .array comp type) (hl : ¬ len > e.platform.arrayLengthLimit) (hh : ¬ len * componentBytes type > e.platform.maxHeapBytes) (hfit : fits type init = true) (hdef : init.isDefault = true) {Q : Addr → Pre}
    (h1 : u.heap.size < e.platform.maxCells) (h2 : u.slotsUsed + len ≤ e.platform.maxSlots) (hq : Q u.heap.size d acts (u.pushCell { cls := cA, slots := Array.replicate len init, vm := .none })) : (Jvm.newArray cA len init).wp Q E e d acts u := by
  have hf : ∀ i v, (Array.replicate len init)[i]? = some v → u.fitsSlot cA .none i v = true := by
    intro i v hv
    simp only [Array.getElem?_replicate] at hv
    split at hv
    · cases hv; simp [State.fitsSlot, State.slotType?, hk, hkind, hfit]
    · cases hv
  have ha : allocActs (Array.replicate len init) u.heap.size acts = acts := by
    unfold allocActs
    rw [if_pos (by rw [Array.all_replicate]; split <;> simp [hdef])]
  simp only [Jvm.newArray, Jvm.arrayFits, wp_bind', W.ask, W.ite, hl, if_false, wp_pure', W.theClass, hk, hkind, hh, W.alloc, W.stop, Option.some.injEq, exists_eq_left', Array.size_replicate, ha]
  rw [if_neg (by omega)]
  exact ⟨h1, h2, hf, hq⟩
theorem g_make {cA cI cc' : ClassId} {k kc : Class} {n1 n2 : Int32} (hk : u.vm.classes[cA]? = some k) (hkind : k.kind = .array cI (.array .int)) (hkc : u.vm.classes[cI]? = some kc) (hkindc : kc.kind = .array cc' .int) (h1 : ¬ n1 < 0) (h2 : ¬ n2 < 0)
    (hl1 : ¬ n1.toNatClampNeg > e.platform.arrayLengthLimit) (hh1 : ¬ n1.toNatClampNeg * 4 > e.platform.maxHeapBytes) (hl2 : ¬ n2.toNatClampNeg > e.platform.arrayLengthLimit) (hh2 : ¬ n2.toNatClampNeg * 4 > e.platform.maxHeapBytes)
    (hc : u.heap.size + 1 + n1.toNatClampNeg ≤ e.platform.maxCells) (hs : u.slotsUsed + n1.toNatClampNeg + n1.toNatClampNeg * n2.toNatClampNeg ≤ e.platform.maxSlots)
    {Q : Addr → Pre} (hq : ∀ d' acts', Q u.heap.size d' acts' (grF u cA cI n1.toNatClampNeg n2.toNatClampNeg n1.toNatClampNeg)) : (Op.multianewarray.make cA [n1, n2]).wp Q E e d acts u := by
  have hfind : ([n2].find? (· < 0)) = none := by simp [h2]
  rw [Op.multianewarray.make]
  simp only [wp_bind', W.ite, h1, if_false, wp_pure', W.theClass, hk, hkind, Option.some.injEq, exists_eq_left']
  refine g_newArray hk hkind hl1 hh1 rfl rfl (by omega) (by have := Nat.zero_le (n1.toNatClampNeg * n2.toNatClampNeg); omega) ?_
  rw [← grO_0 cA n1.toNatClampNeg u.heap.size]
  simp only [hfind]
  rw [ite_self, wp_bind', Std.Legacy.Range.forIn_eq_forIn_range']
  rw [show ([:n1.toNatClampNeg] : Std.Legacy.Range).size = n1.toNatClampNeg by simp [Std.Legacy.Range.size]]
  show Sem.wp (forIn (List.range' 0 n1.toNatClampNeg 1) PUnit.unit _) _ E e d acts _
  refine wp_forIn_inv (fun rest u' => ∃ i, i ≤ n1.toNatClampNeg ∧ rest = List.range' i (n1.toNatClampNeg - i) ∧ u' = grF u cA cI n1.toNatClampNeg n2.toNatClampNeg i) _ _ ⟨0, Nat.zero_le _, rfl, rfl⟩ ?_ ?_
  · rintro x rest u' d' acts' Q' ⟨i, hi, hl, rfl⟩ hnext
    have hlt : i < n1.toNatClampNeg := by
      rcases Nat.lt_or_ge i n1.toNatClampNeg with h | h
      · exact h
      · rw [show n1.toNatClampNeg - i = 0 by omega] at hl; simp at hl
    obtain ⟨rfl, hrest⟩ : x = i ∧ rest = List.range' (i + 1) (n1.toNatClampNeg - (i + 1)) := by
      rw [show n1.toNatClampNeg - i = (n1.toNatClampNeg - (i + 1)) + 1 by omega, List.range'_succ] at hl
      exact ⟨(List.cons.inj hl).1, (List.cons.inj hl).2⟩
    obtain ⟨f1, f2, f3, f4⟩ := grF_z u cA cI n1.toNatClampNeg n2.toNatClampNeg x
    obtain ⟨o1, o2, o3⟩ := grO_z cA n1.toNatClampNeg u.heap.size x
    have hmul : x * n2.toNatClampNeg + n2.toNatClampNeg ≤ n1.toNatClampNeg * n2.toNatClampNeg := by
      have := Nat.mul_le_mul_right n2.toNatClampNeg (show x + 1 ≤ n1.toNatClampNeg from hlt)
      rw [Nat.succ_mul] at this
      exact this
    simp only [wp_bind']
    rw [Op.multianewarray.make]
    simp only [wp_bind', W.ite, h2, if_false, wp_pure', W.theClass, f3, hkc, hkindc, Option.some.injEq, exists_eq_left']
    refine g_newArray (by rw [f3]; exact hkc) hkindc hl2 hh2 rfl rfl (by omega) (by rw [f4]; omega) ?_
    rw [show ({ cls := cI, slots := Array.replicate n2.toNatClampNeg (defaultValue .int), vm := .none } : Cell) = grI cI n2.toNatClampNeg from arrV_new _ _ _]
    have hlt0 : u.heap.size < (grF u cA cI n1.toNatClampNeg n2.toNatClampNeg x).heap.size := by omega
    simp only [wp_bind', W.writeLoc, wp_pure']
    refine ⟨grO cA n1.toNatClampNeg u.heap.size x, by rw [State.heap_pushCell_of_lt (h := hlt0)]; exact f2, by rw [o2]; simp, by rw [o3]; exact hlt, ?_, hnext _ _ _ ⟨x + 1, hlt, hrest, ?_⟩⟩
    · rw [o1, o2]
      simp [State.fitsSlot, State.slotType?, f3, hk, hkind]
      rfl
    · rw [f1, grO_s]; rfl
  · rintro u' d' acts' ⟨i, hi, hl, rfl⟩
    have hiN : i = n1.toNatClampNeg := by
      rcases Nat.lt_or_ge i n1.toNatClampNeg with h | h
      · rw [show n1.toNatClampNeg - i = (n1.toNatClampNeg - (i + 1)) + 1 by omega, List.range'_succ] at hl; cases hl
      · omega
    subst hiN
    simp only [wp_pure']
    exact hq _ _
end GWP
/-- new int[n1][n2] -/
theorem g_mna {locs : List Loc} {cells slots : Nat} {T : State} (X : Stand p l e R s m args below meth c T locs cells slots) (hexec : p.tables.exec = Jvm.exec) {idx : Nat} (hown : s.vm.findClass own = some m.cls) (hlk : (Cond.classLink own idx "[[I").before args s = true) (hov : (Cond.arrayOver (.array .int)).before args s = true) (har : (Cond.arrayClass .int).before args s = true)
    {g : JFrame} (hg : g.method = m) (hdg : decode c.code g.pc = .ok (.multianewarray idx 2, 4)) {n1 n2 : Int32} {rest : List Value} (hstack : g.stack = .int n2 :: .int n1 :: rest) (h1 : ¬ n1 < 0) (h2 : ¬ n2 < 0) (hb1 : n1.toNatClampNeg * 4 ≤ 536870912) (hb2 : n2.toNatClampNeg * 4 ≤ 536870912)
    (hR : cells + (1 + n1.toNatClampNeg) ≤ R.cells ∧ slots + (n1.toNatClampNeg + n1.toNatClampNeg * n2.toNatClampNeg) ≤ R.slots) :
    ∃ (vm₁ : Vm) (cA cI : ClassId), s.vm.findClass "[[I" = some cA ∧ s.vm.findClass "[I" = some cI ∧ Stand p l e R s m args below meth c (grF (T.setVm vm₁) cA cI n1.toNatClampNeg n2.toNatClampNeg n1.toNatClampNeg) locs (cells + 1 + n1.toNatClampNeg) (slots + n1.toNatClampNeg + n1.toNatClampNeg * n2.toNatClampNeg) ∧
      ∀ target, Steps p.tables e below ((grF (T.setVm vm₁) cA cI n1.toNatClampNeg n2.toNatClampNeg n1.toNatClampNeg).setTop { g with pc := g.pc + 4, stack := .ref T.heap.size :: rest }) target → Steps p.tables e below (T.setTop g) target := by
  subst hg
  have hpl : e.platform.magicAccessors = ({} : Platform).magicAccessors := by rw [X.admits.platform]
  obtain ⟨cI, cA, kA, hcI, hkA, hkdA, hnA⟩ := ao_spec hov
  obtain ⟨cI', kC, c2, hcI', hkC, hkdC⟩ := Cond.arrayClass_spec har
  cases Option.some.inj ((show s.vm.findClass "[I" = some cI' from hcI').symm.trans hcI)
  obtain ⟨c0, hf0, hcl⟩ := Cond.classLink_spec hown hlk e.platform hpl
  cases hnA.symm.trans hf0
  obtain ⟨hg₁, hw₁, hr₁⟩ := State.classEntry (e := e) X.warmed hcl
  generalize T.vm.noted g.method.cls idx (.cls cA) = vm₁ at hg₁ hw₁ hr₁
  obtain ⟨kA₁, hkA₁, heA⟩ := hw₁.alike.2.2 _ _ hkA
  obtain ⟨kC₁, hkC₁, heC⟩ := hw₁.alike.2.2 _ _ hkC
  have hkdA₁ : kA₁.kind = .array cI (.array .int) := by rw [heA]; exact hkdA
  have hkdC₁ : kC₁.kind = .array c2 .int := by rw [heC]; exact hkdC
  have X₁ := X.noted hw₁
  obtain ⟨hr1, hr2⟩ := X.roomAbove hR.1 hR.2
  refine ⟨vm₁, cA, cI, hnA, hcI, grF_stand X₁ cA cI _ _ _, fun target hrest => ?_⟩
  have hl1 : ¬ n1.toNatClampNeg > e.platform.arrayLengthLimit := by rw [Launch.admits_arrayLengthLimit X.admits]; omega
  have hl2 : ¬ n2.toNatClampNeg > e.platform.arrayLengthLimit := by rw [Launch.admits_arrayLengthLimit X.admits]; omega
  have hh1 : ¬ n1.toNatClampNeg * 4 > e.platform.maxHeapBytes := by rw [Launch.admits_maxHeapBytes X.admits]; omega
  have hh2 : ¬ n2.toNatClampNeg * 4 > e.platform.maxHeapBytes := by rw [Launch.admits_maxHeapBytes X.admits]; omega
  jvm_step X.here [hexec, hdg]
  simp only [Op.multianewarray.sem, wp_bind', W.resolveClassAt_links (State.method?_setTop g X.here.top) hg₁]
  rw [W.popN, if_neg (by decide)]
  refine ⟨g, State.topJava?_setTop' (s := T.setVm vm₁) g X.here.top, [.int n1, .int n2], rest, rfl, hstack, ?_⟩
  simp only [List.mapM_cons, List.mapM_nil, wp_bind', wp_pure']
  refine g_make (k := kA₁) (kc := kC₁) hkA₁ hkdA₁ hkC₁ hkdC₁ h1 h2 hl1 hh1 hl2 hh2 (by show T.heap.size + 1 + _ ≤ _; omega) (by show T.slotsUsed + _ + _ ≤ _; omega) (fun d' acts' => ?_)
  have XF := grF_stand X₁ cA cI n1.toNatClampNeg n2.toNatClampNeg n1.toNatClampNeg
  rw [show ((T.setTop g).setVm vm₁).setTop { g with stack := rest } = (T.setVm vm₁).setTop { g with stack := rest } by
    show ((T.setVm vm₁).setTop g).setTop _ = _
    rw [State.setTop_setTop], grF_top]
  simp only [wp_bind', W.mark, W.pushRef, State.topJava?_setTop' _ XF.here.top, Option.some.injEq, exists_eq_left', State.setTop_setTop, State.heap_setTop]
  intro acts
  simp [jvm, XF.here.top]
  exact hrest
theorem arrV_cong {cA : ClassId} {N : Nat} {f g : Nat → Value} (h : ∀ j, j < N → f j = g j) : arrV cA N f = arrV cA N g := by
  unfold arrV
  congr 1
  apply Array.ext
  · simp
  · intro i h1 h2
    simp at h1 ⊢
    exact h i h1
theorem b_mna {idx : Nat} {n1 n2 : Int32} {N M : Nat} (q : Nat) (hC : bC cc own nL p s m meth c S0 a0 D cs a) (hd : decode cc pc = .ok (.multianewarray idx 2, 4)) (hlk : Cond.classLink own idx "[[I" ∈ lw_tbl) (hov : Cond.arrayOver (.array .int) ∈ lw_tbl) (har : Cond.arrayClass .int ∈ lw_tbl) (h1 : ¬ n1 < 0) (h2 : ¬ n2 < 0) (hN : n1.toNatClampNeg = N) (hM : n2.toNatClampNeg = M) (hb1 : N * 4 ≤ 536870912) (hb2 : M * 4 ≤ 536870912)
    (hR : ka + (1 + N) ≤ R.cells ∧ sg + (N + N * M) ≤ R.slots) (hq : pc + 4 = q)
    (k : bW nL p l e R s m args below meth c Q S0 D a ci q lv (.ref (s.heap.size + cl.length) :: st) fs (cl ++ (.inl (cs 3, N, .inr (.inr (.inr (.inr (fun j => some (s.heap.size + cl.length + 1 + j)))))) :: List.replicate N (.inl (cs 0, M, .inl (fun _ => 0))))) (ka + 1 + N) (sg + N + N * M)) : bW nL p l e R s m args below meth c Q S0 D a ci pc lv (.int n2 :: .int n1 :: st) fs cl ka sg := by
  subst hq
  subst hN
  subst hM
  intro H locs la hl hH hL T hT Xs
  have hK := pc_K hC
  obtain ⟨hx, hb, hml, hown, hG, hD, hnm0, hSa, haS⟩ := hC
  obtain ⟨vm₁, cA, comp, fA, fC, X', step⟩ := g_mna Xs hx (own := own) hown (pcw hG hD _ rfl hlk) (pc_over hG hD hov) (pcw hG hD _ rfl har) (g := F0 m pc la (.int n2 :: .int n1 :: st)) rfl (by rw [hb]; exact hd) rfl h1 h2 hb1 hb2 hR
  have e3 : cA = cs 3 := Option.some.inj (fA.symm.trans (hK.2 3 _ rfl).2)
  have e0 : comp = cs 0 := Option.some.inj (fC.symm.trans (hK.2 0 _ rfl).2)
  subst e3
  subst e0
  obtain ⟨f1, f2, -, -⟩ := grF_z (T.setVm vm₁) (cs 3) (cs 0) n1.toNatClampNeg n2.toNatClampNeg n1.toNatClampNeg
  have hrow := grF_row (T.setVm vm₁) (cs 3) (cs 0) n1.toNatClampNeg n2.toNatClampNeg n1.toNatClampNeg
  have hold : ∀ x : Nat, x < H.size → (grF (T.setVm vm₁) (cs 3) (cs 0) n1.toNatClampNeg n2.toNatClampNeg n1.toNatClampNeg).heap[x]? = H[x]? := fun x hx => by
    have := grF_old (T.setVm vm₁) (cs 3) (cs 0) n1.toNatClampNeg n2.toNatClampNeg (x := x) (by show x < T.heap.size; rw [hT]; exact hx) n1.toNatClampNeg
    rw [this]
    show T.heap[x]? = _
    rw [hT]
  generalize grF (T.setVm vm₁) (cs 3) (cs 0) n1.toNatClampNeg n2.toNatClampNeg n1.toNatClampNeg = F at X' step f1 f2 hrow hold
  have hTh : (T.setVm vm₁).heap = H := hT
  rw [hTh] at f1 f2 hrow
  have hout2 : F.heap[H.size]? = some (arrV (cs 3) n1.toNatClampNeg (fun j => va_rf (some (H.size + 1 + j)))) := by
    rw [f2, grO]
    refine congrArg some (arrV_cong (fun j hj => ?_))
    rw [if_pos hj]
  have hH2 : bH D s.heap a ci fs (cl ++ (.inl (cs 3, n1.toNatClampNeg, .inr (.inr (.inr (.inr (fun j => some (s.heap.size + cl.length + 1 + j)))))) :: List.replicate n1.toNatClampNeg (.inl (cs 0, n2.toNatClampNeg, .inl (fun _ => 0))))) F.heap := by
    refine bH.app hH haS (by rw [f1, List.length_cons, List.length_replicate]; omega) hold (fun i y hy => ?_)
    rcases i with _ | i
    · cases hy
      show F.heap[H.size]? = some (vp_cell _ _)
      rw [hout2, ← hH.1]
      rfl
    · rw [List.getElem?_cons_succ, List.getElem?_replicate] at hy
      split at hy
      · rename_i hi
        cases hy
        have := hrow i hi
        rw [show H.size + 1 + i = H.size + (i + 1) by omega] at this
        exact this
      · cases hy
  obtain ⟨t, a1, b1⟩ := k F.heap locs la hl hH2 hL F rfl X'
  refine ⟨t, step t ?_, b1⟩
  rw [hT, hH.1]
  exact a1
end BRN2
