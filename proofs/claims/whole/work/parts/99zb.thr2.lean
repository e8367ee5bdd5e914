/-! methods that may throw -/
section NXT2
variable {p : Program} {l : Launch} {e : Env} {R : Room} {s : State} {m : MethodId} {args : Array Value} {below : List Frame} {meth : Method} {c : Code} {H : Heap} {locs : List Loc} {cells slots : Nat}
variable {mc ms : Nat} {free : Addr → Prop} {ls : Array Slot} {rest : List Value} {Qc : Array Value → State → Outcome → State → Prop} {XC : String → State → State → Prop}
/-- new; dup; ldc; invokespecial; athrow: as the kit's vx_throwS goes, over the words above -/
theorem nx_throw {cc : ByteArray} {pc : Nat} (hexec : p.tables.exec = Jvm.exec) (hb : c.code = cc) (hl : l.flags = flags0) {text : String} {is sa : Nat} {A : Nat → Prop} (hown : s.vm.findClass RX8 = some m.cls)
    (hk : (Cond.classLink RX8 163 nse).before args s = true) (hini : (Cond.initialized nse).before args s = true) (hstr : vk_R RX8 is text sa s) (hat : ∀ w ∈ nxL.filter vx_no, w.before args s = true)
    (hU : vx_Zq Bundle.tN "UNASSIGNED_STACK" Bundle.steD A s s.heap) (hN : vx_Zq Bundle.tN "SUPPRESSED_SENTINEL" Bundle.listD A s s.heap) (hS : va_S A s.heap H locs) (hsize : ls.size = c.maxLocals)
    (d0 : decode cc pc = .ok (.new 163, 3)) (d3 : decode cc (pc + 3) = .ok (.dup, 1)) (d4 : decode cc (pc + 4) = .ok (.ldc is, 2)) (d6 : decode cc (pc + 6) = .ok (.invokespecial 167, 3)) (d9 : decode cc (pc + 9) = .ok (.athrow, 1))
    (hout : ∀ x ∈ c.exceptionTable.toList, covers x (pc + 9) = false)
    (hRf : 5 < R.frames) (hRl : (rest.map fun v => v.category).sum + 82 ≤ R.locals) (hRc : cells + 1 ≤ R.cells) (hRs : slots + 6 ≤ R.slots) (hlocks : meth.locks = false)
    (hx : ∀ t : State, s.vm.Alike t.vm → H.size ≤ t.heap.size → (∀ q : Nat, q < H.size → t.heap[q]? = H[q]?) → XC nse s t)
    (hf : ∀ z ∈ locs, free z.base) (hc : cells + 1 ≤ mc) (hs : slots + 6 ≤ ms) :
    W p l e R s m args below meth c H locs cells slots (vx_MQ below Qc XC args s mc ms free) (F0 m pc ls rest) := by
  intro T hT X
  have htr : e.platform.stackTraces = false := Launch.traces_off hl X.admits
  have Y := vx_rebase X (R' := { frames := R.frames, locals := R.locals, cells := 1, slots := 6 }) (Nat.le_refl _) (Nat.le_refl _) hRc hRs
  obtain ⟨s', hA⟩ : ∃ z, z = (T.setVm s.vm).setFrames (.invoking m args :: below) := ⟨_, rfl⟩
  rw [← hA] at Y
  have hvm : s'.vm = s.vm := by rw [hA]; rfl
  have hhp : s'.heap = H := by rw [hA]; exact hT
  have hW0 : s.WarmedH s'.vm := by rw [hvm]; exact State.WarmedH.refl s
  have hat' : ∀ w ∈ nxL.filter vx_no, w.before args s' = true := fun w hw => vx_ot_at hW0 hvm.symm (nxL_ok w hw).2.2 (hat w hw)
  have hk' : (Cond.classLink RX8 163 nse).before args s' = true := vx_ot_at hW0 hvm.symm (by decide) hk
  have hini' : (Cond.initialized nse).before args s' = true := vx_ot_at hW0 hvm.symm (by decide) hini
  have hU' : vx_Zq Bundle.tN "UNASSIGNED_STACK" Bundle.steD A s' s'.heap := by rw [hhp]; exact vx_Zq.moved hW0.alike (hU.kept hS.2.1)
  have hN' : vx_Zq Bundle.tN "SUPPRESSED_SENTINEL" Bundle.listD A s' s'.heap := by rw [hhp]; exact vx_Zq.moved hW0.alike (hN.kept hS.2.1)
  have h : ∀ w ∈ nxL, w.before args s' = true := vx_own hat' (vx_isRefq hU'.1) (vx_isRefq hN'.1) hU'.2.word hN'.2.word
  have hown' : s'.vm.findClass RX8 = some m.cls := by rw [hvm]; exact hown
  have hins : (Cond.instantiable nse 6).before args s' = true := h _ (nxL_5 _ (by simp [nxT]))
  obtain ⟨vm₁, cX, kX, hfX, hkX, -, -, X₁, st1⟩ := Y.newCold hexec (own := RX8) (C := nse) (index := 163) (n := 6) hown' hk' hins hini'
    (g := F0 m pc ls rest) rfl (by rw [hb]; exact d0) (Nat.le_refl _) (Nat.le_refl _)
  generalize hT1 : (T.setVm vm₁).pushCell { cls := cX, slots := kX.instanceTypes.map defaultValue, vm := .none } = T1 at X₁ st1
  have hcat : (Value.ref T.heap.size).category = 1 := rfl
  have hcellA : T1.heap[T.heap.size]? = some (freshCell cX kX) := by rw [← hT1]; exact State.heap_pushCell_size _ _
  have d3' : decode c.code (pc + 3) = .ok (.dup, 1) := by rw [hb]; exact d3
  have d4' : decode c.code (pc + 4) = .ok (.ldc is, 2) := by rw [hb]; exact d4
  have hstr' : vk_R RX8 is text sa s' := vk_R.warm hW0 hstr
  obtain ⟨U, hsteps, hrun, hend, hW, hsame, ce, hce, hcv, hcc⟩ := nx_ctor X₁ hexec htr hown' h (fun x hx => nomatch hx) hfX hkX hcellA (by rw [hhp, hT]; exact Nat.le_refl _) (msg := .ref sa) rfl
    (g := { method := m, pc := pc + 6, locals := ls, stack := .ref sa :: .ref T.heap.size :: .ref T.heap.size :: rest, locked := none }) rfl hsize rfl rfl (rest := rest) rfl
    (by rw [hb]; exact d6) (by rw [hb]; exact d9) hout hRf (by simp only [List.map_cons, List.sum_cons, hcat]; show 0 + _ + 81 ≤ R.locals; omega) hlocks
  obtain ⟨f1, f2⟩ := vx_frame hsame
  rw [hhp] at f1 f2
  have hWs : s.WarmedH U.vm := State.WarmedH.trans hW0 hW
  have hcl : s.vm.findClass nse = some ce.cls := by
    rw [hcc, ← hvm]
    exact hfX
  have hall : s.sameButNew ({ U with vm := s.vm } : State) locs mc ms := by
    subst hA
    obtain ⟨e1, e2⟩ := hsame
    rw [State.setFrames_setFrames] at e1
    have h2 : (T.setVm s.vm).sameButNew ({ U with vm := s.vm } : State) [] (0 + 1) (0 + 6) := ⟨e1, e2⟩
    have h3 := X.same.trans h2
    rw [List.append_nil] at h3
    exact h3.mono hc hs
  refine ⟨U, ?_, .threw T.heap.size, hrun, hend, Or.inr ⟨T.heap.size, rfl, nse, ce, locs, hx U hWs.alike f1 (fun q hq => f2 q hq (fun z hz => nomatch hz)), hce, hcv, hcl, hWs, hall, hf⟩⟩
  refine st1 _ ?_
  show Steps p.tables e below (T1.setTop { method := m, pc := pc + 3, locals := ls, stack := .ref T.heap.size :: rest, locked := none }) _
  jvm_step X₁.here [X₁.here.top, hexec, d3', Value.category]
  exact X₁.ldcString hexec (own := RX8) (text := text) (index := is) (a := sa) hown' hstr'.1 hstr'.2
    (g := { method := m, pc := pc + 4, locals := ls, stack := .ref T.heap.size :: .ref T.heap.size :: rest, locked := none }) rfl d4' _ hsteps
end NXT2
/-- words that stay -/
theorem nx_word {l : Launch} {S0 U : State} {a0 : Array Value} {ad : pm_A} {D : va_G} {cs : Nat → ClassId} (hG : pm_G l S0 a0 ad D cs) (hD : pm_D S0 U) (a : Array Value) {w : Cond} (hg : nxg w = true) (ho : w.onTables = true ∨ goodWord w = true) (hw : w ∈ lw_tbl) : w.before a U = true := by
  unfold nxg at hg
  rw [Bool.or_eq_true] at hg
  rcases hg with g | g
  · exact pm_word hG hD a g hw
  · rcases ho with o | o
    · exact va_tabs o (rfl : (S0.setVm U.vm).vm = U.vm) (Cond.faceAtom_setVm (vm' := U.vm) hD.1.alike w g (hG.2.1 w hw))
    · exact pm_word hG hD a o hw
theorem nx_hat {l : Launch} {S0 U : State} {a0 : Array Value} {ad : pm_A} {D : va_G} {cs : Nat → ClassId} (hG : pm_G l S0 a0 ad D cs) (hD : pm_D S0 U) (a : Array Value) : ∀ w ∈ nxL.filter vx_no, w.before a U = true := fun w hw => by
  obtain ⟨h1, h2, h3⟩ := nxL_ok w hw
  refine nx_word hG hD a h2 ?_ h1
  unfold vx_ot at h3
  rw [Bool.or_eq_true] at h3
  exact h3
theorem nx_st {l : Launch} {S0 U : State} {a0 : Array Value} {ad : pm_A} {D : va_G} {cs : Nat → ClassId} (hG : pm_G l S0 a0 ad D cs) (hD : pm_D S0 U) : vx_Zq Bundle.tN "UNASSIGNED_STACK" Bundle.steD (fun q => S0.heap.size ≤ q) U U.heap ∧ vx_Zq Bundle.tN "SUPPRESSED_SENTINEL" Bundle.listD (fun q => S0.heap.size ≤ q) U U.heap := by
  have hs := flat_of_before _ hG.2.2.2.2.2.1
  have hA : ∀ a : Nat, a < S0.heap.size → ¬ S0.heap.size ≤ a := fun a h => Nat.not_le.mpr h
  have mv : ∀ {n d : String}, vx_Zq Bundle.tN n d (fun q => S0.heap.size ≤ q) S0 S0.heap → vx_Zq Bundle.tN n d (fun q => S0.heap.size ≤ q) U U.heap := fun z => (vx_Zq.moved hD.1.alike z).kept (fun a ha _ => hD.2.2 a ha)
  exact ⟨mv (vx_Zqof (hG.2.1 _ (pm_t4 181 rfl)) (hG.2.1 _ (pm_t1 16 rfl)) (hs _ (by decide +kernel)) hA), mv (vx_Zqof (hG.2.1 _ (pm_t4 183 rfl)) (hG.2.1 _ (pm_t1 16 rfl)) (hs _ (by decide +kernel)) hA)⟩
/-- its world when it throws -/
def pm_XC (S0 : State) (ad : pm_A) (D : va_G) (cs : Nat → ClassId) (mem : pm_M) (X : Prop) : String → State → State → Prop := fun E st t => E = nse ∧ X ∧ pm_H ad D cs mem t.heap ∧ va_F (fun q => S0.heap.size ≤ q) st t
/-- a method that answers o, or throws -/
def Cx (y : MethodName) (bc : ByteArray) (mL : Nat) (ret : Option FieldType) (fr lo : Nat) (as : List pm_v) (mem : pm_M) (o : Option Int32) : Prop :=
  ∀ (l : Launch) (S0 : State) (a0 : Array Value) (ad : pm_A) (D : va_G) (cs : Nat → ClassId), pm_G l S0 a0 ad D cs →
    vx_Met l y [Cond.code y bc mL ret] { frames := fr, cells := 1, slots := 6, locals := lo } (pm_Pc S0 ad D cs as mem) (pm_Qc S0 ad D cs (fun r m => (∃ v, o = some v ∧ r = some (pI v)) ∧ m = mem)) (pm_XC S0 ad D cs mem (o = none)) 1 6 (fun q => S0.heap.size ≤ q)
theorem pm_H.more {ad : pm_A} {D : va_G} {cs : Nat → ClassId} {mem : pm_M} {H H1 : Heap} (h : pm_H ad D cs mem H) (hq : ∀ q : Nat, q < H.size → H1[q]? = H[q]?) : pm_H ad D cs mem H1 := ⟨fun t i hi => (h.1 t i hi).kept (hq _ (h.1 t i hi).lt), h.2⟩
def thr (cc : ByteArray) (pc : Nat) : Prop := decode cc pc = .ok (.new 163, 3) ∧ decode cc (pc + 3) = .ok (.dup, 1) ∧ decode cc (pc + 6) = .ok (.invokespecial 167, 3) ∧ decode cc (pc + 9) = .ok (.athrow, 1) ∧ ∃ (is k : Nat) (tx : String), decode cc (pc + 4) = .ok (.ldc is, 2) ∧ pm_str[k]? = some (RX8, is) ∧ pm_txt[k]? = some tx
def thX (cc : ByteArray) (mem : pm_M) : Nat → List (Option pm_v) → List pm_v → pm_M → Prop := fun pc _ st m => thr cc pc ∧ st = [] ∧ m = mem
/-- the locals at a method's start -/
theorem pm_start {ad : pm_A} {as : List pm_v} {mL : Nat} (hoks : pm_oks as) (hcat : (as.map pm_cat).all (fun n => n == 1) = true) (hlen : as.length ≤ mL) : ∃ la, pm_L ad mL la (as.map some ++ List.replicate (mL - as.length) none) ∧ ∀ m : MethodId, entryFrame m (as.map (pm_mv ad)).toArray mL = F0 m 0 la [] := by
  have hsl : ∀ (vs : List pm_v), (vs.map pm_cat).all (fun n => n == 1) = true → lg_sl (vs.map (pm_mv ad)) = vs.map (fun v => Slot.val (pm_mv ad v)) := by
    intro vs
    induction vs with
    | nil => intro _; rfl
    | cons v r ih =>
      intro hh
      simp only [List.map_cons, List.all_cons, Bool.and_eq_true, beq_iff_eq] at hh
      simp only [List.map_cons, lg_sl, List.flatMap_cons]
      rw [pm_mv_cat, hh.1, if_neg (by decide)]
      have := ih hh.2
      unfold lg_sl at this
      rw [this]
      rfl
  have hs1 := hsl as hcat
  have hlen2 : (lg_sl (as.map (pm_mv ad))).length ≤ mL := by rw [hs1, List.length_map]; exact hlen
  have hle := lv_entry (as.map (pm_mv ad)) (n := mL) hlen2
  refine ⟨_, ⟨hle.1, hle.2.1, by simp only [List.length_append, List.length_map, List.length_replicate]; omega, fun k v hk => ?_⟩, fun m => lg_entry_eq m _ _⟩
  rw [hs1]
  by_cases hkl : k < as.length
  · rw [List.getElem?_append_left (by rw [List.length_map]; exact hkl), List.getElem?_map, List.getElem?_eq_getElem hkl] at hk
    have e1 : as[k] = v := Option.some.inj (Option.some.inj hk)
    refine ⟨?_, pm_oks_mem hoks (by rw [← e1]; exact List.getElem_mem hkl)⟩
    rw [List.getElem?_toArray, List.getElem?_append_left (by rw [List.length_map]; exact hkl), List.getElem?_map, List.getElem?_eq_getElem hkl, e1]
    rfl
  · rw [List.getElem?_append_right (by rw [List.length_map]; omega), List.getElem?_replicate] at hk
    split at hk <;> cases hk
section CXO
variable {cc : ByteArray} {mem : pm_M} {y : MethodName} {mL fr lo : Nat} {as : List pm_v}
theorem Cx.ofX (hy : plainName y.cls = true) (hcat : (as.map pm_cat).all (fun n => n == 1) = true) (hlen : as.length ≤ mL) (hown : y.cls = RX8) (hR : 5 < fr ∧ 82 ≤ lo)
    (h : PR cc RX8 mL fr lo 0 (as.map some ++ List.replicate (mL - as.length) none) [] mem (thX cc mem)) : Cx y cc mL (some .int) fr lo as mem none := by
  intro l S0 a0 ad D cs hG
  refine vx_ofW (cc := cc) (maxL := mL) (ret := some .int) hy rfl ?_
  intro p e s m args below meth c s₁ B hml htab hv
  obtain ⟨rfl, hoks, hD, hH⟩ := hv
  have hx := B.exec
  have hb := B.bytes
  have hown' : s.vm.findClass RX8 = some m.cls := by rw [← hown]; exact findClass_of_methodNamed B.named
  have hlocks := B.notSynchronized
  obtain ⟨la, hl, he⟩ := pm_start (ad := ad) hoks hcat hlen
  rw [he]
  refine h p l e _ s m _ below meth c 0 0 _ S0 a0 ad D cs ⟨hx, hb, hml, hown', hG, hD, Nat.le_refl _, Nat.le_refl _, Nat.zero_le _, Nat.zero_le _⟩ ?_ s.heap [] la hl trivial hH va_S.rf
  intro pc' ls' st' mem' hX H locs la' hl' hs' hH' hS
  obtain ⟨⟨d0, d3, d6, d9, is, k, tx, d4, hk, ht⟩, rfl, rfl⟩ := hX
  obtain ⟨z1, z2⟩ := nx_st hG hD
  refine nx_throw (A := fun q => S0.heap.size ≤ q) hx hb hG.1 hown' (pm_word hG hD _ rfl (pm_t4 154 rfl)) (pm_word hG hD _ rfl (pm_t1 19 rfl)) (vk_R.warm hD.1 (hG.2.2.2.2.2.2.2.1 k (RX8, is) tx hk ht)) (nx_hat hG hD _) z1 z2 hS (hl'.1.trans hml.symm) d0 d3 d4 d6 d9 (fun x hx' => (htab x hx').elim) hR.1 (by show 0 + 82 ≤ lo; omega) (Nat.le_refl _) (Nat.le_refl _) hlocks (fun t hA hz hq => ?_) hS.2.2 (Nat.le_refl _) (Nat.le_refl _)
  refine ⟨rfl, rfl, hH'.more hq, Nat.le_trans hS.1 hz, fun q h1 h2 => ?_⟩
  rw [hq q (Nat.lt_of_lt_of_le h1 hS.1)]
  exact hS.2.1 q h1 h2
theorem Cx.ofR {own : String} {v : Int32} (hy : plainName y.cls = true) (hcat : (as.map pm_cat).all (fun n => n == 1) = true) (hlen : as.length ≤ mL) (hown : y.cls = own)
    (h : PR cc own mL fr lo 0 (as.map some ++ List.replicate (mL - as.length) none) [] mem (pm_RX cc (some .int) (fun r m => r = some (pI v) ∧ m = mem))) : Cx y cc mL (some .int) fr lo as mem (some v) := by
  subst hown
  intro l S0 a0 ad D cs hG
  refine vx_ofW (cc := cc) (maxL := mL) (ret := some .int) hy rfl ?_
  intro p e s m args below meth c s₁ B hml htab hv
  obtain ⟨rfl, hoks, hD, hH⟩ := hv
  have hx := B.exec
  have hb := B.bytes
  have hr := B.returns
  have hown' : s.vm.findClass y.cls = some m.cls := findClass_of_methodNamed B.named
  have hlocks := B.notSynchronized
  obtain ⟨la, hl, he⟩ := pm_start (ad := ad) hoks hcat hlen
  rw [he]
  refine h p l e _ s m _ below meth c 0 0 _ S0 a0 ad D cs ⟨hx, hb, hml, hown', hG, hD, Nat.le_refl _, Nat.le_refl _, Nat.zero_le _, Nat.zero_le _⟩ ?_ s.heap [] la hl trivial hH va_S.rf
  intro pc' ls' st' mem' hX H locs la' hl' hs' hH' hS
  rcases hX with ⟨v', hd, hret, rfl, hQ⟩ | ⟨v', hd, hret, rfl, hQ⟩ | ⟨hd, hret, rfl, hQ⟩ | ⟨t, i, hd, hret, rfl, hQ⟩
  · obtain ⟨h1, rfl⟩ := hQ
    have hfin : ∀ t : State, t.heap = H → s.WarmedH t.vm → pm_Qc S0 ad D cs (fun r m => (∃ v_1, some v = some v_1 ∧ r = some (pI v_1)) ∧ m = mem') (as.map (pm_mv ad)).toArray s (.returned (some (.int v'))) t := fun t ht _ => ⟨some (pI v'), mem', ⟨⟨v, rfl, h1⟩, rfl⟩, rfl, fun v h' => by cases h'; trivial, by rw [ht]; exact hH', hS.F ht⟩
    exact vx_ret (W.widen (Nat.zero_le 1) (Nat.zero_le 6) (W.zret (v := v') (ty := .int) hx hb hr rfl hfin hS.2.2 hd))
  · cases hret
  · cases hret
  · cases hret
end CXO
