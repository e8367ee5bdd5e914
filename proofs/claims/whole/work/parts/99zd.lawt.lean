/-! the law's load, trip: made by wip/whole/gen99zd.py -/
theorem pm_CBx {own : String} {l : Launch} {S0 s : State} {a0 args : Array Value} {ad : pm_A} {D : va_G} {cs : Nat → ClassId} {R : Room} (hG : pm_G l S0 a0 ad D cs) (hD : pm_D S0 s) {y : MethodName} {bc : ByteArray} {mL n fr' lo' idx : Nat} {ret : Option FieldType} (hw : pm_MW y bc mL ret n) (hR : fr' + 1 ≤ R.frames ∧ 8 + (mL + 11) + lo' ≤ R.locals) (hl : Cond.methodLink own idx y ∈ lw_tbl) :
    CallB R s args own idx y bc mL ret [Cond.code y bc mL ret] { frames := fr', cells := 1, slots := 6, locals := lo' } 1 6 n := by
  refine ⟨rfl, rfl, hR.1, hR.2, ?_, List.mem_cons_self, pm_word hG hD _ rfl hw.1, pm_word hG hD _ rfl hw.2.1, hw.2.2.1, fun sig h => ?_, pm_word hG hD _ rfl hl⟩
  · intro z hz a' U hW
    rw [List.mem_singleton.mp hz]
    exact word_at (hD.1.trans hW) (good_of_word rfl) (hG.2.1 _ hw.1)
  · have h2 := hw.2.2.2
    rw [h] at h2
    exact (Option.some.inj h2).symm
theorem vX8of_load : pm_CV RL 7 yX8_load 10008908 := ⟨rfl, ⟨_, rfl, rfl⟩, pm_t4 150 rfl, pm_t4 151 rfl, pm_t4 152 rfl⟩
theorem vX8of_trip : pm_CV RL 15 yX8_trip 10008908 := ⟨rfl, ⟨_, rfl, rfl⟩, pm_t4 237 rfl, pm_t4 238 rfl, pm_t4 239 rfl⟩
/-- a method with handlers that returns -/
def Cy (y : MethodName) (bc : ByteArray) (mL : Nat) (ret : Option FieldType) (hh : List (Nat × Nat × Nat × Nat)) (fr lo : Nat) (as : List pm_v) (mem : pm_M) (Qr : Option pm_v → pm_M → Prop) : Prop :=
  ∀ (l : Launch) (S0 : State) (a0 : Array Value) (ad : pm_A) (D : va_G) (cs : Nat → ClassId), pm_G l S0 a0 ad D cs →
    Met l y [Cond.codeWith y bc mL ret hh] { frames := fr, cells := 1, slots := 6, locals := lo } (pm_Pc S0 ad D cs as mem) (pm_Qc S0 ad D cs Qr) 1 6 (fun q => S0.heap.size ≤ q)
def lwQ (mem : pm_M) (o : Option Int32) : Option pm_v → pm_M → Prop := fun r m => match o with
  | some v => r = some (pI 0) ∧ m = pm_uJ mem 40001990 0 0 v.toInt64
  | none => r = some (pI 1) ∧ m = mem
def lwH : List (Nat × Nat × Nat × Nat) := [(0, 10, 13, 13)]
theorem met_of {l : Launch} {y : MethodName} {ws : List Cond} {rm : Room} {Pc : Array Value → State → Prop} {Qc : Array Value → State → Outcome → State → Prop} {mc ms : Nat} {free : Addr → Prop} (h : vx_Met l y ws rm Pc Qc (fun _ _ _ => False) mc ms free) : Met l y ws rm Pc Qc mc ms free := by
  refine MetFree.mono h (fun _ _ hp => hp) (fun _ _ _ _ _ hk => hk) ?_
  intro a st oc t _ hq
  rcases hq with hq | ⟨q, -, E, ce, L, hF, -⟩
  · exact hq
  · exact hF.elim
section LWT
variable {mem : pm_M} {o : Option Int32} {a b : Int32}
theorem cwL_load : Cond.codeWith yL_load cL_load 5 (some .int) lwH ∈ lw_tbl := pm_t4 148 rfl
set_option maxRecDepth 100000 in
theorem sp_L_load (hc : Cx yX8_load cX8_load 3 (some .int) 6 82 [pR 10008908 0, pI a, pI b] mem o) : Cy yL_load cL_load 5 (some .int) lwH 7 104 [pR 10008908 0, pI a, pI b, pR 40001990 0] mem (lwQ mem o) := by
  intro l S0 a0 ad D cs hG
  refine met_of (vx_ofWH (cc := cL_load) (maxL := 5) (ret := some .int) (hh := lwH) rfl rfl ?_)
  intro p e s m args below meth c s₁ B hml hv
  obtain ⟨rfl, hoks, hD, hH⟩ := hv
  have hx := B.exec
  have hb := B.bytes
  have hr := B.returns
  have hown : s.vm.findClass RL = some m.cls := findClass_of_methodNamed B.named
  have hlocks := B.notSynchronized
  have htab := vx_table (x := yL_load) B (hh := lwH) (bytes := cL_load) (maxL' := 5) (ret' := some .int) (pm_word hG hD _ rfl cwL_load)
  obtain ⟨la, hl, he⟩ := pm_start (ad := ad) (mL := 5) hoks rfl (Nat.le_of_ble_eq_true rfl)
  rw [he]
  have hC : ∀ cells slots, cells ≤ 1 → slots ≤ 6 → pm_C cL_load RL 5 7 104 p l (headSpec [Cond.codeWith yL_load cL_load 5 (some .int) lwH] { frames := 7, cells := 1, slots := 6, locals := 104 }).room s m c cells slots S0 a0 ad D cs := fun cells slots h1 h2 => ⟨hx, hb, hml, hown, hG, hD, Nat.le_refl _, Nat.le_refl _, h1, h2⟩
  -- up to the call
  have h1 : PR cL_load RL 5 7 104 0 [some (pR 10008908 0), some (pI a), some (pI b), some (pR 40001990 0), none] [] mem (fun pc ls st m => pc = 5 ∧ ls = [some (pR 10008908 0), some (pI a), some (pI b), some (pR 40001990 0), none] ∧ st = [pI b, pI a, pR 10008908 0, pI 0, pR 40001990 0] ∧ m = mem) := by
    refine pr_aload_n 1 dL_load_0 rfl rfl rfl ?_
    refine pr_iconst (0) 2 dL_load_1 (by decide) rfl ?_
    refine pr_aload_n 3 dL_load_2 rfl rfl rfl ?_
    refine pr_iload_n 4 dL_load_3 rfl rfl rfl ?_
    refine pr_iload_n 5 dL_load_4 rfl rfl rfl ?_
    exact PR.done ⟨rfl, rfl, rfl, rfl⟩
  -- behind it
  have h2 : ∀ v : Int32, PR cL_load RL 5 7 104 8 [some (pR 10008908 0), some (pI a), some (pI b), some (pR 40001990 0), none] [pI v, pI 0, pR 40001990 0] mem (fun pc ls st m => pc = 18 ∧ st = [pI 0] ∧ m = pm_uJ mem 40001990 0 0 v.toInt64) := by
    intro v
    refine pr_i2l 9 dL_load_8 rfl ?_
    refine pr_lastore 0 10 dL_load_9 rfl rfl rfl (by decide) rfl ?_
    refine pr_goto 17 dL_load_10 rfl ?_
    refine pr_iconst (0) 18 dL_load_17 (by decide) rfl ?_
    exact PR.done ⟨rfl, rfl, rfl⟩
  refine h1 p l e _ s m _ below meth c 0 0 _ S0 a0 ad D cs (hC 0 0 (by decide) (by decide)) ?_ s.heap [] la hl trivial hH va_S.rf
  intro pc' ls' st' mem' hX H locs la' hl' hs' hH' hS
  obtain ⟨rfl, rfl, rfl, rfl⟩ := hX
  have hi := pm_ok_lt (t := 10008908) (rfl : 10008908 / 10000000 = 1) (by decide) hs'.2.2.1
  have hK : va_K D vwCl [(cs 0, .int), (cs 1, .byte), (cs 2, .long), (cs 3, .array .int)] s := va_K.moved hD.1.alike hG.2.2.1
  obtain ⟨w, hw1, hw2⟩ := vX8of_load.2.1
  obtain ⟨-, hfc, -⟩ := hK.1 _ _ hw1
  obtain ⟨r0, hr1, cell, q1, q2, q3, q4⟩ := pm_objP (cs := cs) (t := 10008908) rfl hi hH'
  have hDU : ∀ U : State, U.heap = H → s.WarmedH U.vm → pm_D S0 U := fun U hU hW => hD.step hW (by rw [hU]; exact hS.1) (fun z hz => by rw [hU]; exact hS.2.1 z (Nat.lt_of_lt_of_le hz hD.2.1) (Nat.not_le.mpr hz))
  have has : pm_oks [pR 10008908 0, pI a, pI b] := ⟨hs'.2.2.1, trivial, trivial, trivial⟩
  have hcb := pm_CBx (own := RL) (args := ([pR 10008908 0, pI a, pI b, pR 40001990 0].map (pm_mv ad)).toArray) (R := (headSpec [Cond.codeWith yL_load cL_load 5 (some .int) lwH] { frames := 7, cells := 1, slots := 6, locals := 104 }).room) (fr' := 6) (lo' := 82) (idx := 7) hG hD mX8_load ⟨by show 6 + 1 ≤ 7; omega, by show 8 + (3 + 11) + 82 ≤ 104; omega⟩ (vX8of_load.2.2.1)
  have hrun := vx_runV (p := p) (l := l) (e := e) (R := (headSpec [Cond.codeWith yL_load cL_load 5 (some .int) lwH] { frames := 7, cells := 1, slots := 6, locals := 104 }).room) (s := s) (m := m) (args := [pR 10008908 0, pI a, pI b, pR 40001990 0].map (pm_mv ad) |>.toArray) (below := below) (meth := meth) (c := c) (H := H) (locs := locs) (cells := 0) (slots := 0) (C := RX8) (As := [Value.int a, Value.int b]) (n := 2) (b := ad 10008908 0) (Ts := []) (rest := [Value.int 0, Value.ref (ad 40001990 0)]) (g := F0 m 5 la' ([pI b, pI a, pR 10008908 0, pI 0, pR 40001990 0].map (pm_mv ad)))
    ⟨hx, hb, hml, hown, fun _ h => by cases h⟩ (hc l S0 a0 ad D cs hG) ⟨hcb, pm_word hG hD _ rfl vX8of_load.2.2.2.1, pm_word hG hD _ rfl vX8of_load.2.2.2.2⟩
    ⟨pm_blind, ⟨cell, q1, by rw [q3]; rfl, by rw [q2]; rw [← hw2] at hfc; exact hfc⟩, fun U hU hW => ⟨rfl, has, hDU U hU hW, by rw [hU]; exact hH'⟩⟩ rfl rfl hl'.1 rfl (lv_room (Nat.le_of_ble_eq_true rfl)) dL_load_5 ⟨by show 0 + 1 ≤ 1; omega, by show 0 + 6 ≤ 6; omega⟩
  intro T hT Xs
  rcases hrun T hT Xs with ⟨v, st₀, t, T', L, h0, X', hL, e1, e2, ⟨r, mem2, ⟨⟨vv, ho, hrv⟩, rfl⟩, hv, hok, hH2, hz, hk⟩, go⟩ | ⟨q, st₀, t, T', L, E, ce, h0, X', hL, e1, e2, ⟨rfl, ho, hH2, hz, hk⟩, hce, hcv, hcl, st⟩
  · rw [h0] at hz hk
    subst hrv
    have hvv : v = some (.int vv) := by injection hv
    have hS' : va_S (fun q => S0.heap.size ≤ q) s.heap T'.heap (locs ++ L) := ⟨Nat.le_trans hS.1 (by rw [e1]; exact hz), fun z h1 h2 => by rw [e1, hk z (Nat.lt_of_lt_of_le h1 hS.1) h2]; exact hS.2.1 z h1 h2, fun z hz => by
      rcases List.mem_append.mp hz with h | h
      · exact hS.2.2 z h
      · exact hL z h⟩
    have k2 := h2 vv p l e _ s m _ below meth c 1 6 (vx_MQ below (pm_Qc S0 ad D cs (lwQ mem2 o)) (fun _ _ _ => False) ([pR 10008908 0, pI a, pI b, pR 40001990 0].map (pm_mv ad)).toArray s 1 6 (fun q => S0.heap.size ≤ q)) S0 a0 ad D cs (hC 1 6 (by decide) (by decide)) (fun pc3 ls3 st3 mem3 hX3 H3 locs3 la3 hl3 hs3 hH3 hS3 => by
      obtain ⟨rfl, rfl, rfl⟩ := hX3
      refine vx_ret (W.zret (v := 0) (ty := .int) hx hb hr rfl (fun t3 ht3 _ => ⟨some (pI 0), _, ?_, rfl, fun v h' => by cases h'; trivial, by rw [ht3]; exact hH3, hS3.F ht3⟩) hS3.2.2 dL_load_18)
      rw [ho]
      exact ⟨rfl, rfl⟩) T'.heap (locs ++ L) la' hl' ⟨trivial, trivial, hs'.2.2.2.2.1, trivial⟩ (by rw [e1]; exact hH2) hS' T' rfl X'
    obtain ⟨t2, a1, b1⟩ := k2
    refine ⟨t2, go t2 ?_, b1⟩
    rw [hvv]
    exact a1
  · rw [h0] at hz hk
    have hS' : va_S (fun q => S0.heap.size ≤ q) s.heap T'.heap (locs ++ L) := ⟨Nat.le_trans hS.1 (by rw [e1]; exact hz), fun z h1 h2 => by rw [e1, hk z (Nat.lt_of_lt_of_le h1 hS.1) h2]; exact hS.2.1 z h1 h2, fun z hz => by
      rcases List.mem_append.mp hz with h | h
      · exact hS.2.2 z h
      · exact hL z h⟩
    have k3 : vx_W p l e (headSpec [Cond.codeWith yL_load cL_load 5 (some .int) lwH] { frames := 7, cells := 1, slots := 6, locals := 104 }).room s m ([pR 10008908 0, pI a, pI b, pR 40001990 0].map (pm_mv ad)).toArray below meth c T'.heap (locs ++ L) 1 6 (vx_MQ below (pm_Qc S0 ad D cs (lwQ mem' o)) (fun _ _ _ => False) ([pR 10008908 0, pI a, pI b, pR 40001990 0].map (pm_mv ad)).toArray s 1 6 (fun q => S0.heap.size ≤ q)) (F0 m 5 la' [Value.int 0, Value.ref (ad 40001990 0)]) q := by
      refine vx_catch (own := RL) (name := nse) (E := nse) (ce := ce) hown [] ⟨0, 10, 13, 13⟩ [] (by rw [htab]; rfl) (fun z hz => nomatch hz) (by decide) (by decide) (pm_word hG hD _ rfl (pm_t4 149 rfl)) (nx_word hG hD _ (by decide) (Or.inl rfl) (pm_t4 156 rfl)) (by rw [e1]; exact hce) hcv hcl ?_
      refine lv_astore hx hb dL_load_13 (lv := []) (nL := 5) ⟨hl'.1, hl'.2.1, fun _ h => nomatch h⟩ (by decide) rfl (fun ls4 _ => ?_)
      refine lv_iconst (v := 1) hx hb dL_load_15 (by decide) ?_
      refine vx_ret (W.zret (v := 1) (ty := .int) hx hb hr rfl (fun t3 ht3 _ => ⟨some (pI 1), mem', ?_, rfl, fun v h' => by cases h'; trivial, by rw [ht3, e1]; exact hH2, hS'.F ht3⟩) hS'.2.2 dL_load_16)
      rw [ho]
      exact ⟨rfl, rfl⟩
    obtain ⟨t2, a1, b1⟩ := k3 T' rfl X'
    exact ⟨t2, st.trans a1, b1⟩
theorem cwL_trip : Cond.codeWith yL_trip cL_trip 5 (some .int) lwH ∈ lw_tbl := pm_t4 236 rfl
set_option maxRecDepth 100000 in
theorem sp_L_trip (hc : Cx yX8_trip cX8_trip 3 (some .int) 6 82 [pR 10008908 0, pI a, pI b] mem o) : Cy yL_trip cL_trip 5 (some .int) lwH 7 104 [pR 10008908 0, pI a, pI b, pR 40001990 0] mem (lwQ mem o) := by
  intro l S0 a0 ad D cs hG
  refine met_of (vx_ofWH (cc := cL_trip) (maxL := 5) (ret := some .int) (hh := lwH) rfl rfl ?_)
  intro p e s m args below meth c s₁ B hml hv
  obtain ⟨rfl, hoks, hD, hH⟩ := hv
  have hx := B.exec
  have hb := B.bytes
  have hr := B.returns
  have hown : s.vm.findClass RL = some m.cls := findClass_of_methodNamed B.named
  have hlocks := B.notSynchronized
  have htab := vx_table (x := yL_trip) B (hh := lwH) (bytes := cL_trip) (maxL' := 5) (ret' := some .int) (pm_word hG hD _ rfl cwL_trip)
  obtain ⟨la, hl, he⟩ := pm_start (ad := ad) (mL := 5) hoks rfl (Nat.le_of_ble_eq_true rfl)
  rw [he]
  have hC : ∀ cells slots, cells ≤ 1 → slots ≤ 6 → pm_C cL_trip RL 5 7 104 p l (headSpec [Cond.codeWith yL_trip cL_trip 5 (some .int) lwH] { frames := 7, cells := 1, slots := 6, locals := 104 }).room s m c cells slots S0 a0 ad D cs := fun cells slots h1 h2 => ⟨hx, hb, hml, hown, hG, hD, Nat.le_refl _, Nat.le_refl _, h1, h2⟩
  -- up to the call
  have h1 : PR cL_trip RL 5 7 104 0 [some (pR 10008908 0), some (pI a), some (pI b), some (pR 40001990 0), none] [] mem (fun pc ls st m => pc = 5 ∧ ls = [some (pR 10008908 0), some (pI a), some (pI b), some (pR 40001990 0), none] ∧ st = [pI b, pI a, pR 10008908 0, pI 0, pR 40001990 0] ∧ m = mem) := by
    refine pr_aload_n 1 dL_trip_0 rfl rfl rfl ?_
    refine pr_iconst (0) 2 dL_trip_1 (by decide) rfl ?_
    refine pr_aload_n 3 dL_trip_2 rfl rfl rfl ?_
    refine pr_iload_n 4 dL_trip_3 rfl rfl rfl ?_
    refine pr_iload_n 5 dL_trip_4 rfl rfl rfl ?_
    exact PR.done ⟨rfl, rfl, rfl, rfl⟩
  -- behind it
  have h2 : ∀ v : Int32, PR cL_trip RL 5 7 104 8 [some (pR 10008908 0), some (pI a), some (pI b), some (pR 40001990 0), none] [pI v, pI 0, pR 40001990 0] mem (fun pc ls st m => pc = 18 ∧ st = [pI 0] ∧ m = pm_uJ mem 40001990 0 0 v.toInt64) := by
    intro v
    refine pr_i2l 9 dL_trip_8 rfl ?_
    refine pr_lastore 0 10 dL_trip_9 rfl rfl rfl (by decide) rfl ?_
    refine pr_goto 17 dL_trip_10 rfl ?_
    refine pr_iconst (0) 18 dL_trip_17 (by decide) rfl ?_
    exact PR.done ⟨rfl, rfl, rfl⟩
  refine h1 p l e _ s m _ below meth c 0 0 _ S0 a0 ad D cs (hC 0 0 (by decide) (by decide)) ?_ s.heap [] la hl trivial hH va_S.rf
  intro pc' ls' st' mem' hX H locs la' hl' hs' hH' hS
  obtain ⟨rfl, rfl, rfl, rfl⟩ := hX
  have hi := pm_ok_lt (t := 10008908) (rfl : 10008908 / 10000000 = 1) (by decide) hs'.2.2.1
  have hK : va_K D vwCl [(cs 0, .int), (cs 1, .byte), (cs 2, .long), (cs 3, .array .int)] s := va_K.moved hD.1.alike hG.2.2.1
  obtain ⟨w, hw1, hw2⟩ := vX8of_trip.2.1
  obtain ⟨-, hfc, -⟩ := hK.1 _ _ hw1
  obtain ⟨r0, hr1, cell, q1, q2, q3, q4⟩ := pm_objP (cs := cs) (t := 10008908) rfl hi hH'
  have hDU : ∀ U : State, U.heap = H → s.WarmedH U.vm → pm_D S0 U := fun U hU hW => hD.step hW (by rw [hU]; exact hS.1) (fun z hz => by rw [hU]; exact hS.2.1 z (Nat.lt_of_lt_of_le hz hD.2.1) (Nat.not_le.mpr hz))
  have has : pm_oks [pR 10008908 0, pI a, pI b] := ⟨hs'.2.2.1, trivial, trivial, trivial⟩
  have hcb := pm_CBx (own := RL) (args := ([pR 10008908 0, pI a, pI b, pR 40001990 0].map (pm_mv ad)).toArray) (R := (headSpec [Cond.codeWith yL_trip cL_trip 5 (some .int) lwH] { frames := 7, cells := 1, slots := 6, locals := 104 }).room) (fr' := 6) (lo' := 82) (idx := 15) hG hD mX8_trip ⟨by show 6 + 1 ≤ 7; omega, by show 8 + (3 + 11) + 82 ≤ 104; omega⟩ (vX8of_trip.2.2.1)
  have hrun := vx_runV (p := p) (l := l) (e := e) (R := (headSpec [Cond.codeWith yL_trip cL_trip 5 (some .int) lwH] { frames := 7, cells := 1, slots := 6, locals := 104 }).room) (s := s) (m := m) (args := [pR 10008908 0, pI a, pI b, pR 40001990 0].map (pm_mv ad) |>.toArray) (below := below) (meth := meth) (c := c) (H := H) (locs := locs) (cells := 0) (slots := 0) (C := RX8) (As := [Value.int a, Value.int b]) (n := 2) (b := ad 10008908 0) (Ts := []) (rest := [Value.int 0, Value.ref (ad 40001990 0)]) (g := F0 m 5 la' ([pI b, pI a, pR 10008908 0, pI 0, pR 40001990 0].map (pm_mv ad)))
    ⟨hx, hb, hml, hown, fun _ h => by cases h⟩ (hc l S0 a0 ad D cs hG) ⟨hcb, pm_word hG hD _ rfl vX8of_trip.2.2.2.1, pm_word hG hD _ rfl vX8of_trip.2.2.2.2⟩
    ⟨pm_blind, ⟨cell, q1, by rw [q3]; rfl, by rw [q2]; rw [← hw2] at hfc; exact hfc⟩, fun U hU hW => ⟨rfl, has, hDU U hU hW, by rw [hU]; exact hH'⟩⟩ rfl rfl hl'.1 rfl (lv_room (Nat.le_of_ble_eq_true rfl)) dL_trip_5 ⟨by show 0 + 1 ≤ 1; omega, by show 0 + 6 ≤ 6; omega⟩
  intro T hT Xs
  rcases hrun T hT Xs with ⟨v, st₀, t, T', L, h0, X', hL, e1, e2, ⟨r, mem2, ⟨⟨vv, ho, hrv⟩, rfl⟩, hv, hok, hH2, hz, hk⟩, go⟩ | ⟨q, st₀, t, T', L, E, ce, h0, X', hL, e1, e2, ⟨rfl, ho, hH2, hz, hk⟩, hce, hcv, hcl, st⟩
  · rw [h0] at hz hk
    subst hrv
    have hvv : v = some (.int vv) := by injection hv
    have hS' : va_S (fun q => S0.heap.size ≤ q) s.heap T'.heap (locs ++ L) := ⟨Nat.le_trans hS.1 (by rw [e1]; exact hz), fun z h1 h2 => by rw [e1, hk z (Nat.lt_of_lt_of_le h1 hS.1) h2]; exact hS.2.1 z h1 h2, fun z hz => by
      rcases List.mem_append.mp hz with h | h
      · exact hS.2.2 z h
      · exact hL z h⟩
    have k2 := h2 vv p l e _ s m _ below meth c 1 6 (vx_MQ below (pm_Qc S0 ad D cs (lwQ mem2 o)) (fun _ _ _ => False) ([pR 10008908 0, pI a, pI b, pR 40001990 0].map (pm_mv ad)).toArray s 1 6 (fun q => S0.heap.size ≤ q)) S0 a0 ad D cs (hC 1 6 (by decide) (by decide)) (fun pc3 ls3 st3 mem3 hX3 H3 locs3 la3 hl3 hs3 hH3 hS3 => by
      obtain ⟨rfl, rfl, rfl⟩ := hX3
      refine vx_ret (W.zret (v := 0) (ty := .int) hx hb hr rfl (fun t3 ht3 _ => ⟨some (pI 0), _, ?_, rfl, fun v h' => by cases h'; trivial, by rw [ht3]; exact hH3, hS3.F ht3⟩) hS3.2.2 dL_trip_18)
      rw [ho]
      exact ⟨rfl, rfl⟩) T'.heap (locs ++ L) la' hl' ⟨trivial, trivial, hs'.2.2.2.2.1, trivial⟩ (by rw [e1]; exact hH2) hS' T' rfl X'
    obtain ⟨t2, a1, b1⟩ := k2
    refine ⟨t2, go t2 ?_, b1⟩
    rw [hvv]
    exact a1
  · rw [h0] at hz hk
    have hS' : va_S (fun q => S0.heap.size ≤ q) s.heap T'.heap (locs ++ L) := ⟨Nat.le_trans hS.1 (by rw [e1]; exact hz), fun z h1 h2 => by rw [e1, hk z (Nat.lt_of_lt_of_le h1 hS.1) h2]; exact hS.2.1 z h1 h2, fun z hz => by
      rcases List.mem_append.mp hz with h | h
      · exact hS.2.2 z h
      · exact hL z h⟩
    have k3 : vx_W p l e (headSpec [Cond.codeWith yL_trip cL_trip 5 (some .int) lwH] { frames := 7, cells := 1, slots := 6, locals := 104 }).room s m ([pR 10008908 0, pI a, pI b, pR 40001990 0].map (pm_mv ad)).toArray below meth c T'.heap (locs ++ L) 1 6 (vx_MQ below (pm_Qc S0 ad D cs (lwQ mem' o)) (fun _ _ _ => False) ([pR 10008908 0, pI a, pI b, pR 40001990 0].map (pm_mv ad)).toArray s 1 6 (fun q => S0.heap.size ≤ q)) (F0 m 5 la' [Value.int 0, Value.ref (ad 40001990 0)]) q := by
      refine vx_catch (own := RL) (name := nse) (E := nse) (ce := ce) hown [] ⟨0, 10, 13, 13⟩ [] (by rw [htab]; rfl) (fun z hz => nomatch hz) (by decide) (by decide) (pm_word hG hD _ rfl (pm_t4 149 rfl)) (nx_word hG hD _ (by decide) (Or.inl rfl) (pm_t4 156 rfl)) (by rw [e1]; exact hce) hcv hcl ?_
      refine lv_astore hx hb dL_trip_13 (lv := []) (nL := 5) ⟨hl'.1, hl'.2.1, fun _ h => nomatch h⟩ (by decide) rfl (fun ls4 _ => ?_)
      refine lv_iconst (v := 1) hx hb dL_trip_15 (by decide) ?_
      refine vx_ret (W.zret (v := 1) (ty := .int) hx hb hr rfl (fun t3 ht3 _ => ⟨some (pI 1), mem', ?_, rfl, fun v h' => by cases h'; trivial, by rw [ht3, e1]; exact hH2, hS'.F ht3⟩) hS'.2.2 dL_trip_16)
      rw [ho]
      exact ⟨rfl, rfl⟩
    obtain ⟨t2, a1, b1⟩ := k3 T' rfl X'
    exact ⟨t2, st.trans a1, b1⟩
end LWT
