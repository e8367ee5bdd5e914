/-! arrays of arrays, calls, returns -/
section PRC
variable {cc : ByteArray} {own : String} {nL fr lo pc : Nat} {ls : List (Option pm_v)} {st : List pm_v} {mem : pm_M} {X : Nat → List (Option pm_v) → List pm_v → pm_M → Prop}
theorem pr_aaload {t i n : Nat} {x : Int32} (j t2 : Nat) (q : Nat) (hd : decode cc pc = .ok (.aaload, 1)) (h1 : t / 10000000 = 5) (hn : t / 1000 % 10000 = n) (ht2 : pm_rt t = t2) (hx : x = nI j) (hj : j < n) (hq : pc + 1 = q) (kk : PR cc own nL fr lo q ls (pR t2 (n * i + j) :: st) mem X) : PR cc own nL fr lo pc ls (pI x :: pR t i :: st) mem X := by
  subst hq; subst hx; subst ht2
  refine PR.step1 (fun {p l e R s m args below meth c cells slots Q S0 a0 ad D cs} H locs la hC hl hs hH hS kk => ?_) kk
  have hi := pm_ok_lt h1 (by decide) hs.2.1
  have hP := pm_arrP hi hH (z := .inl (cs 3, n, .inr (.inr (.inr (.inr (fun j => some (ad (pm_rt t) (n * i + j)))))))) (by simp [pm_ce, h1, hn])
  have hK : va_K D vwCl [(cs 0, .int), (cs 1, .byte), (cs 2, .long), (cs 3, .array .int)] s := va_K.moved hC.2.2.2.2.2.1.1.alike hC.2.2.2.2.1.2.2.1
  have hin : vp_in (nI j) n := vp_in_nI hj (pm_n_small hn)
  have hc : (nI j).toNatClampNeg = j := nI_clamp (by have := pm_n_small hn; omega)
  refine W.aald (v := .ref (ad (pm_rt t) (n * i + j))) (ty := .array .int) hC.1 hC.2.1 (hP 0 _ rfl) ((hK.2 3 _ rfl).1 n (fun j => va_rf (some (ad (pm_rt t) (n * i + j))))) rfl (fun q => by cases q) (by show ¬ (nI j < 0 ∨ (arrV _ _ _).slots.size ≤ _); rw [arrV_size]; exact hin) (by show (arrV _ _ _).slots[_]? = _; rw [hc, arrV_read _ _ hj]; rfl) rfl rfl hd ?_
  refine kk la hl ⟨Or.inr ?_, hs.2.2⟩
  have := pm_tab2 _ (pm_tn_mem hi) h1 i hi j (by rw [hn]; exact hj)
  rw [hn] at this
  exact this
theorem pr_aaload0 {t n : Nat} {x : Int32} (j t2 : Nat) (q : Nat) (hd : decode cc pc = .ok (.aaload, 1)) (h1 : t / 10000000 = 5) (hn : t / 1000 % 10000 = n) (ht2 : pm_rt t = t2) (hx : x = nI j) (hj : j < n) (hq : pc + 1 = q) (kk : PR cc own nL fr lo q ls (pR t2 j :: st) mem X) : PR cc own nL fr lo pc ls (pI x :: pR t 0 :: st) mem X := by
  refine pr_aaload j t2 q hd h1 hn ht2 hx hj hq ?_
  rw [Nat.mul_zero, Nat.zero_add]
  exact kk
/-- a method's start -/
def pm_Pc (S0 : State) (ad : pm_A) (D : va_G) (cs : Nat → ClassId) (as : List pm_v) (mem : pm_M) : Array Value → State → Prop := fun a U => a = (as.map (pm_mv ad)).toArray ∧ pm_oks as ∧ pm_D S0 U ∧ pm_H ad D cs mem U.heap
/-- its end -/
def pm_Qc (S0 : State) (ad : pm_A) (D : va_G) (cs : Nat → ClassId) (Qr : Option pm_v → pm_M → Prop) : Array Value → State → Outcome → State → Prop := fun _ st oc t =>
  ∃ (r : Option pm_v) (mem' : pm_M), Qr r mem' ∧ oc = .returned (r.map (pm_mv ad)) ∧ (∀ v, r = some v → pm_ok v) ∧ pm_H ad D cs mem' t.heap ∧ va_F (fun q => S0.heap.size ≤ q) st t
theorem pm_blind {S0 : State} {ad : pm_A} {D : va_G} {cs : Nat → ClassId} {as : List pm_v} : FrameBlind (pm_Pc S0 ad D cs as mem) := fun _ _ _ _ h => h
/-- a method, called: from these arguments and this memory it returns, with Qr -/
def Cl (y : MethodName) (bc : ByteArray) (mL : Nat) (ret : Option FieldType) (fr lo : Nat) (as : List pm_v) (mem : pm_M) (Qr : Option pm_v → pm_M → Prop) : Prop :=
  ∀ (l : Launch) (S0 : State) (a0 : Array Value) (ad : pm_A) (D : va_G) (cs : Nat → ClassId), pm_G l S0 a0 ad D cs →
    Met l y [Cond.code y bc mL ret] { frames := fr, cells := 0, slots := 0, locals := lo } (pm_Pc S0 ad D cs as mem) (pm_Qc S0 ad D cs Qr) 0 0 (fun q => S0.heap.size ≤ q)
/-- the words of a method -/
def pm_MW (y : MethodName) (bc : ByteArray) (mL : Nat) (ret : Option FieldType) (n : Nat) : Prop :=
  Cond.code y bc mL ret ∈ lw_tbl ∧ Cond.initialized y.cls ∈ lw_tbl ∧ (y.cls ≠ "java/lang/invoke/MethodHandle" ∧ y.cls ≠ "java/lang/invoke/VarHandle") ∧ (parseMethodDescriptor y.desc).map (fun d => d.parameters.length) = some n
/-- of a call of it on an object -/
def pm_CV (own : String) (idx : Nat) (y : MethodName) (t : Nat) : Prop :=
  t / 10000000 = 1 ∧ (∃ w : vw_C, vwCl[t / 1000 % 10000]? = some w ∧ y.cls = w.1) ∧ Cond.methodLink own idx y ∈ lw_tbl ∧ Cond.instanceMethod y ∈ lw_tbl ∧ Cond.selects y.cls y y ∈ lw_tbl
def pm_CS (own : String) (idx : Nat) (y : MethodName) : Prop := Cond.methodLink own idx y ∈ lw_tbl ∧ Cond.static y ∈ lw_tbl
theorem pm_CB {l : Launch} {S0 s : State} {a0 args : Array Value} {ad : pm_A} {D : va_G} {cs : Nat → ClassId} {R : Room} (hG : pm_G l S0 a0 ad D cs) (hD : pm_D S0 s) {y : MethodName} {bc : ByteArray} {mL n fr' lo' idx : Nat} {ret : Option FieldType} (hw : pm_MW y bc mL ret n) (hR : fr' + 1 ≤ R.frames ∧ 8 + (mL + 11) + lo' ≤ R.locals) (hl : Cond.methodLink own idx y ∈ lw_tbl) :
    CallB R s args own idx y bc mL ret [Cond.code y bc mL ret] { frames := fr', cells := 0, slots := 0, locals := lo' } 0 0 n := by
  refine ⟨rfl, rfl, hR.1, hR.2, ?_, List.mem_cons_self, pm_word hG hD _ rfl hw.1, pm_word hG hD _ rfl hw.2.1, hw.2.2.1, fun sig h => ?_, pm_word hG hD _ rfl hl⟩
  · intro z hz a' U hW
    rw [List.mem_singleton.mp hz]
    exact word_at (hD.1.trans hW) (good_of_word rfl) (hG.2.1 _ hw.1)
  · have h2 := hw.2.2.2
    rw [h] at h2
    exact (Option.some.inj h2).symm
theorem PR.call {q : Nat} {as : List pm_v} {st0 : List pm_v} {Qr : Option pm_v → pm_M → Prop}
    (h : ∀ {p : Program} {l : Launch} {e : Env} {R : Room} {s : State} {m : MethodId} {args : Array Value} {below : List Frame} {meth : Method} {c : Code} {cells slots : Nat} {S0 : State} {a0 : Array Value} {ad : pm_A} {D : va_G} {cs : Nat → ClassId} (H : Heap) (locs : List Loc) (la : Array Slot),
      pm_C cc own nL fr lo p l R s m c cells slots S0 a0 ad D cs → la.size = nL → pm_oks st0 → pm_H ad D cs mem H → (∀ U : State, U.heap = H → s.WarmedH U.vm → pm_D S0 U) →
      pm_oks st ∧ va_Run p l e R s m args below meth c H locs cells slots 0 0 (F0 m pc la (st0.map (pm_mv ad))) (st.map (pm_mv ad)) (pm_Qc S0 ad D cs Qr (as.map (pm_mv ad)).toArray) (fun q => S0.heap.size ≤ q))
    (hq : pc + 3 = q) (kk : ∀ r mem', Qr r mem' → PR cc own nL fr lo q ls (r.toList ++ st) mem' X) : PR cc own nL fr lo pc ls st0 mem X := by
  subst hq
  intro p l e R s m args below meth c cells slots Q S0 a0 ad D cs hC hK H locs la hl hs hH hS T hT Xs
  have hD := hC.2.2.2.2.2.1
  have hDU : ∀ U : State, U.heap = H → s.WarmedH U.vm → pm_D S0 U := fun U hU hW => hD.step hW (by rw [hU]; exact hS.1) (fun z hz => by rw [hU]; exact hS.2.1 z (Nat.lt_of_lt_of_le hz hD.2.1) (Nat.not_le.mpr hz))
  obtain ⟨hst, hrun⟩ := h (e := e) (args := args) (below := below) (meth := meth) H locs la hC hl.1 hs hH hDU
  obtain ⟨v, st₀, t, T', L, h0, X', hL, e1, e2, ⟨r, mem', hQ, hv, hok, hH', hz, hk⟩, go⟩ := hrun T hT Xs
  rw [h0] at hz hk
  have hvv : v = r.map (pm_mv ad) := by injection hv
  have hS' : va_S (fun q => S0.heap.size ≤ q) s.heap T'.heap (locs ++ L) := ⟨Nat.le_trans hS.1 (by rw [e1]; exact hz), fun z h1 h2 => by rw [e1, hk z (Nat.lt_of_lt_of_le h1 hS.1) h2]; exact hS.2.1 z h1 h2, fun z hz => by
    rcases List.mem_append.mp hz with h | h
    · exact hS.2.2 z h
    · exact hL z h⟩
  have hoks : pm_oks (r.toList ++ st) := by
    cases r with
    | none => exact hst
    | some v => exact ⟨hok v rfl, hst⟩
  obtain ⟨t2, a1, b1⟩ := kk r mem' hQ p l e R s m args below meth c cells slots Q S0 a0 ad D cs hC hK T'.heap (locs ++ L) la hl hoks (by rw [e1]; exact hH') hS' T' rfl X'
  refine ⟨t2, go t2 ?_, b1⟩
  rw [hvv]
  cases r with
  | none => exact a1
  | some v => exact a1
theorem pr_inv {idx t i : Nat} {y : MethodName} {bc : ByteArray} {mL n fr' lo' : Nat} {ret : Option FieldType} {Qr : Option pm_v → pm_M → Prop} (as : List pm_v) (q : Nat) (hd : decode cc pc = .ok (.invokevirtual idx, 3)) (hw : pm_CV own idx y t) (hm : pm_MW y bc mL ret n) (hc : Cl y bc mL ret fr' lo' (pR t i :: as) mem Qr) (hR : fr' + 1 ≤ fr ∧ 8 + (mL + 11) + lo' ≤ lo) (hn : as.length = n) (hst : (st.map pm_cat).sum ≤ 8)
    (hq : pc + 3 = q) (kk : ∀ r mem', Qr r mem' → PR cc own nL fr lo q ls (r.toList ++ st) mem' X) : PR cc own nL fr lo pc ls (as.reverse ++ pR t i :: st) mem X := by
  refine PR.call (as := pR t i :: as) (fun {p l e R s m args below meth c cells slots S0 a0 ad D cs} H locs la hC hla hs hH hDU => ?_) hq kk
  obtain ⟨hx, hb, hml, hown, hG, hD, hfr, hlo, hcl, hsl⟩ := hC
  obtain ⟨hs1, hs2⟩ := pm_oks_app hs
  have has : pm_oks (pR t i :: as) := ⟨hs2.1, by have := pm_oks_rev hs1; rwa [List.reverse_reverse] at this⟩
  have hi := pm_ok_lt hw.1 (by decide) hs2.1
  obtain ⟨w, hw1, hw2⟩ := hw.2.1
  have hK : va_K D vwCl [(cs 0, .int), (cs 1, .byte), (cs 2, .long), (cs 3, .array .int)] s := va_K.moved hD.1.alike hG.2.2.1
  obtain ⟨-, hfc, -⟩ := hK.1 _ _ hw1
  obtain ⟨r0, hr1, cell, q1, q2, q3, q4⟩ := pm_objP (cs := cs) hw.1 hi hH
  refine ⟨hs2.2, ?_⟩
  have hcat : ((st.map (pm_mv ad)).map fun v => v.category).sum = (st.map pm_cat).sum := by
    rw [List.map_map]
    congr 1
    apply List.map_congr_left
    intro v _
    exact pm_mv_cat ad v
  refine va_runV (C := y.cls) (As := as.map (pm_mv ad)) (n := n) (b := ad t i) (Ts := []) ⟨hx, hb, hml, hown, fun _ h => by cases h⟩ (hc l S0 a0 ad D cs hG) ⟨pm_CB hG hD hm ⟨by omega, by omega⟩ hw.2.2.1, pm_word hG hD _ rfl hw.2.2.2.1, pm_word hG hD _ rfl hw.2.2.2.2⟩
    ⟨pm_blind, ⟨cell, q1, by rw [q3]; rfl, by rw [hw2, q2]; exact hfc⟩, fun U hU hW => ⟨rfl, has, hDU U hU hW, by rw [hU]; exact hH⟩⟩ rfl (by rw [List.length_map]; exact hn) hla ?_ (lv_room (by rw [hcat]; exact hst)) hd ⟨by omega, by omega⟩
  rw [List.map_append, List.map_reverse]
  rfl
theorem pr_ivs {idx : Nat} {y : MethodName} {bc : ByteArray} {mL n fr' lo' : Nat} {ret : Option FieldType} {Qr : Option pm_v → pm_M → Prop} (as : List pm_v) (q : Nat) (hd : decode cc pc = .ok (.invokestatic idx, 3)) (hw : pm_CS own idx y) (hm : pm_MW y bc mL ret n) (hc : Cl y bc mL ret fr' lo' as mem Qr) (hR : fr' + 1 ≤ fr ∧ 8 + (mL + 11) + lo' ≤ lo) (hn : as.length = n) (hst : (st.map pm_cat).sum ≤ 8)
    (hq : pc + 3 = q) (kk : ∀ r mem', Qr r mem' → PR cc own nL fr lo q ls (r.toList ++ st) mem' X) : PR cc own nL fr lo pc ls (as.reverse ++ st) mem X := by
  refine PR.call (as := as) (fun {p l e R s m args below meth c cells slots S0 a0 ad D cs} H locs la hC hla hs hH hDU => ?_) hq kk
  obtain ⟨hx, hb, hml, hown, hG, hD, hfr, hlo, hcl, hsl⟩ := hC
  obtain ⟨hs1, hs2⟩ := pm_oks_app hs
  have has : pm_oks as := by have := pm_oks_rev hs1; rwa [List.reverse_reverse] at this
  refine ⟨hs2, ?_⟩
  have hcat : ((st.map (pm_mv ad)).map fun v => v.category).sum = (st.map pm_cat).sum := by
    rw [List.map_map]
    congr 1
    apply List.map_congr_left
    intro v _
    exact pm_mv_cat ad v
  refine va_runS (As := as.map (pm_mv ad)) (n := n) (Ts := []) ⟨hx, hb, hml, hown, fun _ h => by cases h⟩ (hc l S0 a0 ad D cs hG) ⟨pm_CB hG hD hm ⟨by omega, by omega⟩ hw.1, pm_word hG hD _ rfl hw.2⟩
    ⟨pm_blind, fun U hU hW => ⟨rfl, has, hDU U hU hW, by rw [hU]; exact hH⟩⟩ rfl (by rw [List.length_map]; exact hn) hla ?_ (lv_room (by rw [hcat]; exact hst)) hd ⟨by omega, by omega⟩
  show (as.reverse ++ st).map (pm_mv ad) = _
  rw [List.map_append, List.map_reverse]
/-- a method's exits: its returns -/
def pm_RX (cc : ByteArray) (ret : Option FieldType) (Qr : Option pm_v → pm_M → Prop) : Nat → List (Option pm_v) → List pm_v → pm_M → Prop := fun pc _ st mem =>
  (∃ v : Int32, decode cc pc = .ok (.ireturn, 1) ∧ (ret = some .int ∨ (ret = some .boolean ∧ (v = 0 ∨ v = 1)) ∨ (ret = some .char ∧ narrow .char (.int v) = .int v) ∨ (ret = some .byte ∧ narrow .byte (.int v) = .int v)) ∧ st = [pI v] ∧ Qr (some (pI v)) mem) ∨
  (∃ v : Int64, decode cc pc = .ok (.lreturn, 1) ∧ ret = some .long ∧ st = [pJ v] ∧ Qr (some (pJ v)) mem) ∨
  (decode cc pc = .ok (.return_, 1) ∧ ret = none ∧ st = [] ∧ Qr none mem) ∨
  (∃ t i : Nat, decode cc pc = .ok (.areturn, 1) ∧ ret = some (.array .int) ∧ st = [pR t i] ∧ Qr (some (pR t i)) mem)
theorem Cl.of {y : MethodName} {mL : Nat} {ret : Option FieldType} {as : List pm_v} {Qr : Option pm_v → pm_M → Prop} (hy : plainName y.cls = true) (hcat : (as.map pm_cat).all (fun n => n == 1) = true) (hlen : as.length ≤ mL) (hown : y.cls = own)
    (h : PR cc own mL fr lo 0 (as.map some ++ List.replicate (mL - as.length) none) [] mem (pm_RX cc ret Qr)) : Cl y cc mL ret fr lo as mem Qr := by
  subst hown
  intro l S0 a0 ad D cs hG
  refine Met.ofW (cc := cc) (maxL := mL) (ret := ret) hy rfl ?_
  intro p e s m args below meth c s₁ B hml hv
  obtain ⟨rfl, hoks, hD, hH⟩ := hv
  have hx := B.exec
  have hb := B.bytes
  have hr := B.returns
  have hown : s.vm.findClass y.cls = some m.cls := findClass_of_methodNamed B.named
  have hlocks := B.notSynchronized
  have hsl : ∀ (vs : List pm_v), (vs.map pm_cat).all (fun n => n == 1) = true → lg_sl (vs.map (pm_mv ad)) = vs.map (fun v => Slot.val (pm_mv ad v)) := by
    intro vs
    induction vs with
    | nil => intro _; rfl
    | cons v r ih =>
      intro hh
      simp only [List.map_cons, List.all_cons, Bool.and_eq_true, beq_iff_eq] at hh
      simp only [List.map_cons, lg_sl, List.flatMap_cons]
      rw [pm_mv_cat, hh.1, if_neg (by decide)]
      have := ih hh.2
      unfold lg_sl at this
      rw [this]
      rfl
  have hs1 := hsl as hcat
  have hlen2 : (lg_sl (as.map (pm_mv ad))).length ≤ mL := by rw [hs1, List.length_map]; exact hlen
  have hle := lv_entry (as.map (pm_mv ad)) (n := mL) hlen2
  rw [lg_entry_eq]
  refine h p l e _ s m _ below meth c 0 0 _ S0 a0 ad D cs ⟨hx, hb, hml, hown, hG, hD, Nat.le_refl _, Nat.le_refl _, Nat.zero_le _, Nat.zero_le _⟩ ?_ s.heap [] _ ?_ trivial hH va_S.rf
  · intro pc' ls' st' mem' hX H locs la hl hs hH' hS
    have hfin : ∀ r : Option pm_v, (∀ v, r = some v → pm_ok v) → Qr r mem' → ∀ t : State, t.heap = H → s.WarmedH t.vm → pm_Qc S0 ad D cs Qr (as.map (pm_mv ad)).toArray s (.returned (r.map (pm_mv ad))) t := fun r hok hQ t ht _ => ⟨r, mem', hQ, rfl, hok, by rw [ht]; exact hH', hS.F ht⟩
    rcases hX with ⟨v, hd, hret, rfl, hQ⟩ | ⟨v, hd, hret, rfl, hQ⟩ | ⟨hd, hret, rfl, hQ⟩ | ⟨t, i, hd, hret, rfl, hQ⟩
    · rcases hret with hret | ⟨hret, hv⟩ | ⟨hret, hv⟩ | ⟨hret, hv⟩
      · exact W.zret (v := v) (ty := .int) hx hb (by rw [hr]; exact hret) rfl (hfin (some (pI v)) (fun v' h' => by cases h'; trivial) hQ) hS.2.2 hd
      · exact W.zret (v := v) (ty := .boolean) hx hb (by rw [hr]; exact hret) (by rcases hv with rfl | rfl <;> rfl) (hfin (some (pI v)) (fun v' h' => by cases h'; trivial) hQ) hS.2.2 hd
      · exact W.zret (v := v) (ty := .char) hx hb (by rw [hr]; exact hret) hv (hfin (some (pI v)) (fun v' h' => by cases h'; trivial) hQ) hS.2.2 hd
      · exact W.zret (v := v) (ty := .byte) hx hb (by rw [hr]; exact hret) hv (hfin (some (pI v)) (fun v' h' => by cases h'; trivial) hQ) hS.2.2 hd
    · exact W.lret (v := v) hx hb (by rw [hr]; exact hret) (hfin (some (pJ v)) (fun v' h' => by cases h'; trivial) hQ) hS.2.2 hd
    · exact W.vret hx hb (by rw [hr]; exact hret) (hfin none (fun v' h' => by cases h') hQ) hS.2.2 hd
    · exact W.aret (v := .ref (ad t i)) (rt := .array .int) hx hb (by rw [hr]; exact hret) (Or.inr ⟨_, rfl⟩) (Or.inr ⟨_, rfl⟩) (hfin (some (pR t i)) (fun v' h' => by cases h'; exact hs.1) hQ) hS.2.2 hd
  · refine ⟨hle.1, hle.2.1, by simp only [List.length_append, List.length_map, List.length_replicate]; omega, fun k v hk => ?_⟩
    rw [hs1]
    by_cases hkl : k < as.length
    · rw [List.getElem?_append_left (by rw [List.length_map]; exact hkl), List.getElem?_map, List.getElem?_eq_getElem hkl] at hk
      have e1 : as[k] = v := Option.some.inj (Option.some.inj hk)
      refine ⟨?_, pm_oks_mem hoks (by rw [← e1]; exact List.getElem_mem hkl)⟩
      rw [List.getElem?_toArray, List.getElem?_append_left (by rw [List.length_map]; exact hkl), List.getElem?_map, List.getElem?_eq_getElem hkl, e1]
      rfl
    · rw [List.getElem?_append_right (by rw [List.length_map]; omega), List.getElem?_replicate] at hk
      split at hk <;> cases hk
theorem Cl.mono {y : MethodName} {bc : ByteArray} {mL fr' lo' : Nat} {ret : Option FieldType} {as : List pm_v} {Q1 Q2 : Option pm_v → pm_M → Prop} (h : Cl y bc mL ret fr' lo' as mem Q1) (hQ : ∀ r mem', Q1 r mem' → Q2 r mem') : Cl y bc mL ret fr' lo' as mem Q2 := by
  intro l S0 a0 ad D cs hG
  refine MetFree.mono (h l S0 a0 ad D cs hG) (fun _ _ hp => hp) (fun _ _ _ _ _ hk => hk) ?_
  intro a st o t _ hp
  obtain ⟨⟨r, mem', h1, h2⟩, h3⟩ := hp
  exact ⟨⟨r, mem', hQ r mem' h1, h2⟩, h3⟩
theorem pr_mabs {idx : Nat} {x : Int32} (q : Nat) (hd : decode cc pc = .ok (.invokestatic idx, 3)) (hlk : Cond.methodLink own idx Lib.Math.abs.name ∈ lw_tbl) (hst : Cond.static Lib.Math.abs.name ∈ lw_tbl) (hin : Cond.initialized "java/lang/Math" ∈ lw_tbl) (hco : Cond.code Lib.Math.abs.name Lib.Math.abs.code 1 (some .int) ∈ lw_tbl) (hr : (st.map pm_cat).sum ≤ 8) (hR : 1 ≤ fr ∧ 21 ≤ lo)
    (hq : pc + 3 = q) (kk : PR cc own nL fr lo q ls (pI (if 0 ≤ x then x else 0 - x) :: st) mem X) : PR cc own nL fr lo pc ls (pI x :: st) mem X := by
  subst hq
  refine PR.step1 (fun {p l e R s m args below meth c cells slots Q S0 a0 ad D cs} H locs la hC hl hs hH hS kk => ?_) kk
  obtain ⟨hx, hb, hml, hown, hG, hD, hfr, hlo, hcl, hsl⟩ := hC
  have hcat : ((st.map (pm_mv ad)).map fun v => v.category).sum = (st.map pm_cat).sum := by
    rw [List.map_map]
    congr 1
    apply List.map_congr_left
    intro v _
    exact pm_mv_cat ad v
  exact va_mabs hx hb (by rw [hml]; exact hl.1.symm) hown (pm_word hG hD _ rfl hlk) (pm_word hG hD _ rfl hst) (pm_word hG hD _ rfl hin) (pm_word hG hD _ rfl hco) (by omega) (by omega) hcl hsl hd (kk la hl ⟨trivial, hs.2⟩)
theorem pr_mmin {idx : Nat} {x y : Int32} (q : Nat) (hd : decode cc pc = .ok (.invokestatic idx, 3)) (hlk : Cond.methodLink own idx Lib.Math.min.name ∈ lw_tbl) (hst : Cond.static Lib.Math.min.name ∈ lw_tbl) (hin : Cond.initialized "java/lang/Math" ∈ lw_tbl) (hco : Cond.code Lib.Math.min.name Lib.Math.min.code 2 (some .int) ∈ lw_tbl) (hr : (st.map pm_cat).sum ≤ 8) (hR : 1 ≤ fr ∧ 22 ≤ lo)
    (hq : pc + 3 = q) (kk : PR cc own nL fr lo q ls (pI (if y < x then y else x) :: st) mem X) : PR cc own nL fr lo pc ls (pI y :: pI x :: st) mem X := by
  subst hq
  refine PR.step1 (fun {p l e R s m args below meth c cells slots Q S0 a0 ad D cs} H locs la hC hl hs hH hS kk => ?_) kk
  obtain ⟨hx, hb, hml, hown, hG, hD, hfr, hlo, hcl, hsl⟩ := hC
  have hcat : ((st.map (pm_mv ad)).map fun v => v.category).sum = (st.map pm_cat).sum := by
    rw [List.map_map]
    congr 1
    apply List.map_congr_left
    intro v _
    exact pm_mv_cat ad v
  exact va_mmin hx hb (by rw [hml]; exact hl.1.symm) hown (pm_word hG hD _ rfl hlk) (pm_word hG hD _ rfl hst) (pm_word hG hD _ rfl hin) (pm_word hG hD _ rfl hco) (by omega) (by omega) hcl hsl hd (kk la hl ⟨trivial, hs.2.2⟩)
/-- returns -/
theorem pr_ireturn {ret : Option FieldType} {Qr : Option pm_v → pm_M → Prop} {v : Int32} (hd : decode cc pc = .ok (.ireturn, 1)) (hr : ret = some .int) (h : Qr (some (pI v)) mem) : PR cc own nL fr lo pc ls [pI v] mem (pm_RX cc ret Qr) := PR.done (Or.inl ⟨v, hd, Or.inl hr, rfl, h⟩)
theorem pr_zreturn {ret : Option FieldType} {Qr : Option pm_v → pm_M → Prop} {v : Int32} (hd : decode cc pc = .ok (.ireturn, 1)) (hr : ret = some .boolean) (hv : v = 0 ∨ v = 1) (h : Qr (some (pI v)) mem) : PR cc own nL fr lo pc ls [pI v] mem (pm_RX cc ret Qr) := PR.done (Or.inl ⟨v, hd, Or.inr (Or.inl ⟨hr, hv⟩), rfl, h⟩)
theorem pr_creturn {ret : Option FieldType} {Qr : Option pm_v → pm_M → Prop} {v : Int32} (hd : decode cc pc = .ok (.ireturn, 1)) (hr : ret = some .char) (hv : narrow .char (.int v) = .int v) (h : Qr (some (pI v)) mem) : PR cc own nL fr lo pc ls [pI v] mem (pm_RX cc ret Qr) := PR.done (Or.inl ⟨v, hd, Or.inr (Or.inr (Or.inl ⟨hr, hv⟩)), rfl, h⟩)
theorem pr_breturn {ret : Option FieldType} {Qr : Option pm_v → pm_M → Prop} {v : Int32} (hd : decode cc pc = .ok (.ireturn, 1)) (hr : ret = some .byte) (hv : narrow .byte (.int v) = .int v) (h : Qr (some (pI v)) mem) : PR cc own nL fr lo pc ls [pI v] mem (pm_RX cc ret Qr) := PR.done (Or.inl ⟨v, hd, Or.inr (Or.inr (Or.inr ⟨hr, hv⟩)), rfl, h⟩)
theorem pr_lreturn {ret : Option FieldType} {Qr : Option pm_v → pm_M → Prop} {v : Int64} (hd : decode cc pc = .ok (.lreturn, 1)) (hr : ret = some .long) (h : Qr (some (pJ v)) mem) : PR cc own nL fr lo pc ls [pJ v] mem (pm_RX cc ret Qr) := PR.done (Or.inr (Or.inl ⟨v, hd, hr, rfl, h⟩))
theorem pr_return {ret : Option FieldType} {Qr : Option pm_v → pm_M → Prop} (hd : decode cc pc = .ok (.return_, 1)) (hr : ret = none) (h : Qr none mem) : PR cc own nL fr lo pc ls [] mem (pm_RX cc ret Qr) := PR.done (Or.inr (Or.inr (Or.inl ⟨hd, hr, rfl, h⟩)))
theorem pr_areturn {ret : Option FieldType} {Qr : Option pm_v → pm_M → Prop} {t i : Nat} (hd : decode cc pc = .ok (.areturn, 1)) (hr : ret = some (.array .int)) (h : Qr (some (pR t i)) mem) : PR cc own nL fr lo pc ls [pR t i] mem (pm_RX cc ret Qr) := PR.done (Or.inr (Or.inr (Or.inr ⟨t, i, hd, hr, rfl, h⟩)))
end PRC
