/-! the law's start: its two objects, its row of one number; then its loop -/
def lH (D : va_G) (Hs : Heap) (cl : List va_E) (H : Heap) : Prop := H.size = Hs.size + cl.length ∧ (∀ (i : Nat) (x : va_E), cl[i]? = some x → va_at D vwCl (Hs.size + i, x) H) ∧ ∀ q : Nat, q < Hs.size → H[q]? = Hs[q]?
theorem lH.app {D : va_G} {Hs H H1 : Heap} {cl new : List va_E} (h : lH D Hs cl H) (hz : H1.size = H.size + new.length) (ho : ∀ q : Nat, q < H.size → H1[q]? = H[q]?) (hn : ∀ (i : Nat) (x : va_E), new[i]? = some x → va_at D vwCl (H.size + i, x) H1) : lH D Hs (cl ++ new) H1 := by
  obtain ⟨h1, h3, h4⟩ := h
  refine ⟨by rw [hz, h1, List.length_append]; omega, fun i x hx => ?_, fun q hq => (ho q (by omega)).trans (h4 q hq)⟩
  by_cases hi : i < cl.length
  · rw [List.getElem?_append_left hi] at hx
    exact (h3 i x hx).kept (ho _ (by show Hs.size + i < H.size; omega))
  · rw [List.getElem?_append_right (by omega)] at hx
    have := hn _ _ hx
    rw [h1, show Hs.size + cl.length + (i - cl.length) = Hs.size + i by omega] at this
    exact this
section LST
variable {p : Program} {l : Launch} {e : Env} {s : State} {m : MethodId} {below : List Frame} {meth : Method} {c : Code} {b : Nat} {D : va_G} {cs : Nat → ClassId}
def lS (p : Program) (s : State) (m : MethodId) (c : Code) (b : Nat) (D : va_G) (cs : Nat → ClassId) : Prop := p.tables.exec = Jvm.exec ∧ c.code = code ∧ c.maxLocals = 7 ∧ s.vm.findClass RL = some m.cls ∧ pcG s #[Value.ref b] D cs
def lB (p : Program) (l : Launch) (e : Env) (s : State) (m : MethodId) (below : List Frame) (meth : Method) (c : Code) (b : Nat) (D : va_G) (pc : Nat) (lv : List (Nat × Value)) (st : List Value) (cl : List va_E) (ka sg : Nat) : Prop :=
  ∀ (H : Heap) (locs : List Loc) (la : Array Slot), lv_has la 7 lv → lH D s.heap cl H → (∀ z ∈ locs, s.heap.size ≤ z.base) → W p l e room_1 s m #[Value.ref b] below meth c H locs ka sg (lw_Z below #[Value.ref b] s) (F0 m pc la st)
variable {pc : Nat} {lv : List (Nat × Value)} {st : List Value} {cl : List va_E} {ka sg : Nat}
theorem l_iconst {n : Int} (v : Int32) (q : Nat) (hC : lS p s m c b D cs) (hd : decode code pc = .ok (.iconst n, 1)) (hv : Int32.ofInt n = v) (hq : pc + 1 = q) (k : lB p l e s m below meth c b D q lv (.int v :: st) cl ka sg) : lB p l e s m below meth c b D pc lv st cl ka sg := by
  subst hq
  exact fun H locs la hl hH hL => lv_iconst hC.1 hC.2.1 hd hv (k H locs la hl hH hL)
theorem l_dup {v : Value} (q : Nat) (hC : lS p s m c b D cs) (hd : decode code pc = .ok (.dup, 1)) (hv : v.category = 1) (hq : pc + 1 = q) (k : lB p l e s m below meth c b D q lv (v :: v :: st) cl ka sg) : lB p l e s m below meth c b D pc lv (v :: st) cl ka sg := by
  subst hq
  exact fun H locs la hl hH hL => lv_dup hC.1 hC.2.1 hd hv (k H locs la hl hH hL)
theorem l_astore_n {k4 : Fin 4} {i x : Nat} {lv' : List (Nat × Value)} (q : Nat) (hC : lS p s m c b D cs) (hd : decode code pc = .ok (.astore_n k4, 1)) (hi : (k4 : Nat) = i) (hn : i < 7) (hl' : (i, Value.ref x) :: lv.filter (fun q => !(q.1 == i) && !(q.1 + 1 == i && q.2.category == 2)) = lv') (hq : pc + 1 = q) (k : lB p l e s m below meth c b D q lv' st cl ka sg) : lB p l e s m below meth c b D pc lv (.ref x :: st) cl ka sg := by
  subst hq
  exact fun H locs la hl hH hL => lv_astore_n hC.1 hC.2.1 hd hi hl hn hl' (fun la' hl2 => k H locs la' hl2 hH hL)
theorem l_istore {i : Nat} {x : Int32} {lv' : List (Nat × Value)} (q : Nat) (hC : lS p s m c b D cs) (hd : decode code pc = .ok (.istore i, 2)) (hn : i < 7) (hl' : (i, Value.int x) :: lv.filter (fun q => !(q.1 == i) && !(q.1 + 1 == i && q.2.category == 2)) = lv') (hq : pc + 2 = q) (k : lB p l e s m below meth c b D q lv' st cl ka sg) : lB p l e s m below meth c b D pc lv (.int x :: st) cl ka sg := by
  subst hq
  exact fun H locs la hl hH hL => lv_istore hC.1 hC.2.1 hd hl hn hl' (fun la' hl2 => k H locs la' hl2 hH hL)
theorem l_new {idx ci' : Nat} {w : vw_C} (dfl : List Value) (q x N : Nat) (hC : lS p s m c b D cs) (hd : decode code pc = .ok (.new idx, 3)) (hw : vwCl[ci']? = some w) (hlk : Cond.classLink RL idx w.1 ∈ lw_tbl) (hin : Cond.instantiable w.1 w.2.2 ∈ lw_tbl) (hini : Cond.initialized w.1 ∈ lw_tbl) (ty : Nat → FieldType) (hty : ∀ k, k < w.2.2 → parseFieldDescriptor (w.2.1 k).2.2.1 = some (ty k)) (hfs : ∀ j, j < w.2.2 → defaultValue (ty j) = vp_V dfl j) (hR : ka + 1 ≤ room_1.cells ∧ sg + w.2.2 ≤ room_1.slots) (hq : pc + 3 = q) (hxo : s.heap.size + cl.length = x) (hwN : w.2.2 = N)
    (k : lB p l e s m below meth c b D q lv (.ref x :: st) (cl ++ [.inr (ci', dfl)]) (ka + 1) (sg + N)) : lB p l e s m below meth c b D pc lv st cl ka sg := by
  subst hq
  subst hxo
  subst hwN
  intro H locs la hl hH hL
  obtain ⟨hx, hb2, hml, hown, hG⟩ := hC
  have hD := pm_D.rf s
  have hK := hG.2
  obtain ⟨hN, hu, -, -, -⟩ := pm_cls _ _ hw
  have hts : ∀ z ∈ u_ws w.1 w.2.1 w.2.2, z.before #[Value.ref b] s = true := fun w' hw' => pcw hG hD _ (pm_uw hw') (hu w' hw')
  have hKn := hK.1 _ _ hw
  refine W.newcK hx hb2 hown (pcw hG hD _ rfl hlk) (pcw hG hD _ rfl hin) (pcw hG hD _ rfl hini) rfl hd hR.1 hR.2 hKn.2.1 (h := s.heap.size + cl.length) hH.1 fun H1 kC hkC e1 z1 o1 => ?_
  refine k H1 locs la hl (hH.app (by rw [z1, hH.1]; rfl) (fun q hq => o1 q (by rw [← hH.1]; exact hq)) (fun i y hy => ?_)) hL
  obtain ⟨rfl, rfl⟩ := one_at hy
  rw [hH.1]
  exact ⟨w, hw, (u_born ty hts (fun _ h => h) hKn hkC e1 hty).to hfs⟩
theorem l_newa {n : Int32} {N : Nat} (q x : Nat) (hC : lS p s m c b D cs) (hd : decode code pc = .ok (.newarray .long, 2)) (hw : Cond.arrayClass .long ∈ lw_tbl)
    (hn : ¬ n < 0) (hN : n.toNatClampNeg = N) (hby : N * componentBytes .long ≤ 536870912) (hR : ka + 1 ≤ room_1.cells ∧ sg + N ≤ room_1.slots) (hq : pc + 2 = q) (hxo : s.heap.size + cl.length = x) (k : lB p l e s m below meth c b D q lv (.ref x :: st) (cl ++ [.inl (cs 2, N, .inr (.inl (fun _ => 0)))]) (ka + 1) (sg + N)) : lB p l e s m below meth c b D pc lv (.int n :: st) cl ka sg := by
  subst hq
  subst hxo
  intro H locs la hl hH hL
  have hK := hC.2.2.2.2.2
  have hw' : Cond.arrayClass (newarray.typeOf ArrayType.long) ∈ lw_tbl := hw
  refine va_newaK hC.1 hC.2.1 (pcw hC.2.2.2.2 (pm_D.rf s) _ rfl hw') rfl hd rfl hn hN hby hR.1 hR.2 (h := s.heap.size + cl.length) hH.1 fun H1 cA e1 z1 o1 _ hNm => ?_
  have hcA : cA = cs 2 := by
    have : s.vm.findClass ("[" ++ FieldType.long.toString) = some (cs 2) := (hK.2 2 _ rfl).2
    exact Option.some.inj (hNm.symm.trans this)
  subst hcA
  refine k H1 locs la hl (hH.app (by rw [z1, hH.1]; rfl) (fun q hq => o1 q (by rw [← hH.1]; exact hq)) (fun i y hy => ?_)) hL
  obtain ⟨rfl, rfl⟩ := one_at hy
  rw [hH.1]
  exact e1
theorem l_call {y : MethodName} {bc : ByteArray} {mL' ci' n sl fr' lo' idx x : Nat} {dfl : List Value} {fsC : Nat → List Value} {cC : (Nat → ClassId) → Nat → List va_E} {cl' : List va_E} (pre : List va_E) (q h' : Nat) (hC : lS p s m c b D cs) (hd : decode code pc = .ok (.invokespecial idx, 3)) (hm : pm_MW y bc mL' none 0) (hin : y.name = "<init>" ∧ Cond.instanceMethod y ∈ lw_tbl ∧ Cond.methodLink RL idx y ∈ lw_tbl) (hc : Ct y bc mL' ci' dfl n sl fr' lo' [] fsC cC)
    (hcl : cl = pre ++ [.inr (ci', dfl)]) (hxo : x = s.heap.size + pre.length) (hh : s.heap.size + (pre.length + 1) = h') (hcl' : pre ++ (.inr (ci', fsC h') :: cC cs h') = cl') (hR : fr' + 1 ≤ room_1.frames ∧ 8 + (mL' + 11) + lo' ≤ room_1.locals ∧ ka + n ≤ room_1.cells ∧ sg + sl ≤ room_1.slots) (hst : (st.map fun v => v.category).sum ≤ 8) (hq : pc + 3 = q)
    (kk : lB p l e s m below meth c b D q lv st cl' (ka + n) (sg + sl)) : lB p l e s m below meth c b D pc lv (.ref x :: st) cl ka sg := by
  subst hq
  subst hcl
  subst hxo
  subst hcl'
  intro H locs la hl hH hL
  obtain ⟨hx, hb, hml, hown, hG⟩ := hC
  have hD := pm_D.rf s
  have hz : H.size = h' := by have := hH.1; rw [List.length_append] at this; rw [← hh]; exact this
  have hobj : va_at D vwCl (s.heap.size + pre.length, .inr (ci', dfl)) H := hH.2.1 pre.length _ (by rw [List.getElem?_append_right (Nat.le_refl _), Nat.sub_self]; rfl)
  have cb : CallB room_1 s #[Value.ref b] RL idx y bc mL' none [Cond.code y bc mL' none] { frames := fr', cells := n, slots := sl, locals := lo' } n sl ([] : List Value).length := by
    refine ⟨rfl, rfl, hR.1, hR.2.1, ?_, List.mem_cons_self, pcw hG hD _ rfl hm.1, pcw hG hD _ rfl hm.2.1, hm.2.2.1, fun sig h => ?_, pcw hG hD _ rfl hin.2.2⟩
    · intro z hz a' U hW
      rw [List.mem_singleton.mp hz]
      exact word_at (hD.1.trans hW) (good_of_word rfl) (hG.1 _ hm.1)
    · have h2 := hm.2.2.2
      rw [h] at h2
      exact (Option.some.inj h2).symm
  have hpD : ∀ U : State, U.heap = H → s.WarmedH U.vm → pm_D s U := fun U hU hW => hD.step hW (by rw [hU, hH.1]; omega) (fun z hz => by rw [hU]; exact hH.2.2 z hz)
  have hrun := va_runI (p := p) (e := e) (below := below) (meth := meth) (locs := locs) (cells := ka) (slots := sg) (As := []) (b := s.heap.size + pre.length) (H := H) (Ts := []) (rest := st) (g := F0 m pc la (.ref (s.heap.size + pre.length) :: st)) ⟨hx, hb, hml, hown, fun _ h => by cases h⟩ (hc l s _ D cs hG (s.heap.size + pre.length)) ⟨cb, hin.1, pcw hG hD _ rfl hin.2.1⟩
    ⟨fun _ _ _ _ h => h, fun U hU hW => ⟨rfl, hpD U hU hW, by omega, by rw [hU, hz]; omega, by rw [hU]; exact hobj⟩⟩ rfl rfl hl.1 rfl (lv_room hst) hd ⟨hR.2.2.1, hR.2.2.2⟩
  intro T hT Xs
  obtain ⟨v, st₀, t, T', L, h0, X', hL', e1, e2, ⟨hv, hB⟩, go⟩ := hrun T hT Xs
  rw [h0, hz] at hB
  have hvv : v = none := by injection hv
  obtain ⟨b1, b2, b3, b4⟩ := hB
  have hH2 : lH D s.heap (pre ++ (.inr (ci', fsC h') :: cC cs h')) T'.heap := by
    rw [e1]
    rw [hz] at b1
    refine ⟨by rw [b1, List.length_append, List.length_cons]; omega, fun i y hy => ?_, fun q hq => (b4 q (by rw [hz]; omega) (by omega)).trans (hH.2.2 q hq)⟩
    rcases Nat.lt_or_ge i pre.length with hi | hi
    · rw [List.getElem?_append_left hi] at hy
      refine (hH.2.1 i y (by rw [List.getElem?_append_left hi]; exact hy)).kept (b4 _ ?_ ?_)
      · show s.heap.size + i < H.size
        omega
      · show ¬ s.heap.size + i = s.heap.size + pre.length
        omega
    · rw [List.getElem?_append_right hi] at hy
      rcases Nat.eq_zero_or_pos (i - pre.length) with hi0 | hi0
      · rw [hi0] at hy
        cases hy
        rw [show s.heap.size + i = s.heap.size + pre.length by omega]
        exact b2
      · obtain ⟨j, hj⟩ : ∃ j, i - pre.length = j + 1 := ⟨i - pre.length - 1, by omega⟩
        rw [hj, List.getElem?_cons_succ] at hy
        have := b3 j y hy
        rw [hz, ← hh, show s.heap.size + (pre.length + 1) + j = s.heap.size + i by omega] at this
        exact this
  obtain ⟨t2, a1, c1⟩ := kk T'.heap (locs ++ L) la hl hH2 (fun z hz => by
    rcases List.mem_append.mp hz with h | h
    · exact hL z h
    · exact hL' z h) T' rfl X'
  refine ⟨t2, go t2 ?_, c1⟩
  rw [hvv]
  exact a1
end LST
set_option maxRecDepth 100000 in
theorem clX8_len (cs : Nat → ClassId) (h : Nat) : (st_c1 cs h).length = 209 := rfl
theorem clX9_len (cs : Nat → ClassId) (h : Nat) : (st_c2 cs h).length = 17 := rfl
theorem st_c12 (cs : Nat → ClassId) (h : Nat) : (st_c1 cs h ++ st_c2 cs h).length = 226 := by
  have h1 := clX8_len cs h
  have h2 := clX9_len cs h
  have h3 := List.length_append (as := st_c1 cs h) (bs := st_c2 cs h)
  omega
theorem whole_start {p : Program} {e : Env} {s : State} {m : MethodId} {below : List Frame} {meth : Method} {c : Code} (l : Launch) (hflags : l.flags = flags0) {b L : Nat} {xs : Nat → Int32} (hL : L ≤ 3072) (C0 : lw_At p s m meth c b L xs) : W p l e room_1 s m #[Value.ref b] below meth c s.heap [] 0 0 (lw_Z below #[Value.ref b] s) (entryFrame m ([Value.ref b] : List Value).toArray 7) := by
  obtain ⟨hx, hb, hr, hml, hown, hts, hX, hbl, hlocks, hgv⟩ := C0
  obtain ⟨D, cs, hG⟩ := pc_start hts
  obtain ⟨adK, adV, fm, hsk⟩ := sk_start hts hgv
  have hS : lS p s m c b D cs := ⟨hx, hb, hml, hown, hG⟩
  have h99 : ∀ k, k < 13 → st_ad s.heap.size adK adV fm b 99 k = adK k ∧ st_ad s.heap.size adK adV fm b 99 (100 + k) = adV k := by
    intro k hk
    constructor
    · rw [st_ad, if_pos rfl, if_pos (by omega)]
    · rw [st_ad, if_pos rfl, if_neg (by omega), if_pos (by omega), Nat.add_sub_cancel_left]
  have hC : lwC p l s m meth c b L xs (st_ad s.heap.size adK adV fm b) D cs := ⟨hx, hb, hml, hown, ⟨hflags, hts, hG.2, st_ad_inj, st_ad_ge, hgv, hsk _ h99 rfl⟩, hr, hlocks, rfl, hbl, hX, hL⟩
  obtain ⟨la, hl, he⟩ := pm_start (ad := fun _ i => i) (as := [pR 99 b]) (mL := 7) ⟨Or.inl rfl, trivial⟩ rfl (Nat.le_of_ble_eq_true rfl)
  have he' : entryFrame m ([Value.ref b] : List Value).toArray 7 = F0 m 0 la [] := he m
  rw [he']
  have a1 : st_ad s.heap.size adK adV fm b 10008908 0 = s.heap.size := (st_ad_ne (by decide)).trans (congrArg (s.heap.size + ·) (by decide +kernel : st_ix 10008908 0 = 0))
  have a2 : st_ad s.heap.size adK adV fm b 10009909 0 = s.heap.size + 209 := (st_ad_ne (by decide)).trans (congrArg (s.heap.size + ·) (by decide +kernel : st_ix 10009909 0 = 209))
  have a3 : st_ad s.heap.size adK adV fm b 40001990 0 = s.heap.size + 226 := (st_ad_ne (by decide)).trans (congrArg (s.heap.size + ·) (by decide +kernel : st_ix 40001990 0 = 226))
  have key : lB p l e s m below meth c b D 0 [(0, .ref b)] [] [] 0 0 := by
    refine l_new (ci' := 8) [.null, .null, .null, .null, .null, .null, .null, .null, .int 0] 3 s.heap.size 9 hS dL_law_0 rfl (pm_t1 20 rfl) (pm_t1 21 rfl) (pm_t1 1 rfl) tyX8 tyX8_ok (fun j hj => match j, hj with | 0, _ => rfl | 1, _ => rfl | 2, _ => rfl | 3, _ => rfl | 4, _ => rfl | 5, _ => rfl | 6, _ => rfl | 7, _ => rfl | 8, _ => rfl | j + 9, h => absurd h (by show ¬ j + 9 < 9; omega)) ⟨Nat.le_of_ble_eq_true rfl, Nat.le_of_ble_eq_true rfl⟩ rfl rfl rfl ?_
    refine l_dup 4 hS dL_law_3 rfl rfl ?_
    refine l_call (y := yX8_init) (cl' := st_c1 cs s.heap.size) [] 7 (s.heap.size + 1) hS dL_law_4 mX8_init ⟨rfl, (pm_t1 23 rfl), (pm_t1 22 rfl)⟩ ct_X8 rfl rfl rfl rfl ⟨Nat.le_of_ble_eq_true rfl, Nat.le_of_ble_eq_true rfl, Nat.le_of_ble_eq_true rfl, Nat.le_of_ble_eq_true rfl⟩ (Nat.le_of_ble_eq_true rfl) rfl ?_
    refine l_astore_n 8 hS dL_law_7 rfl (by decide) rfl rfl ?_
    refine l_new (ci' := 9) [.int 0, .null, .int 0, .int 0, .int 0, .int 0, .int 0, .int 0, .int 0, .int 0, .long 0, .null, .null, .null, .int 0, .null, .null, .null, .null, .null, .null, .null, .null, .null, .null, .null, .int 0, .int 0, .int 0, .null, .int 0] 11 (s.heap.size + 209) 31 hS dL_law_8 rfl (pm_t5 20 rfl) (pm_t5 14 rfl) (pm_t1 10 rfl) tyX9 tyX9_ok (fun j hj => match j, hj with | 0, _ => rfl | 1, _ => rfl | 2, _ => rfl | 3, _ => rfl | 4, _ => rfl | 5, _ => rfl | 6, _ => rfl | 7, _ => rfl | 8, _ => rfl | 9, _ => rfl | 10, _ => rfl | 11, _ => rfl | 12, _ => rfl | 13, _ => rfl | 14, _ => rfl | 15, _ => rfl | 16, _ => rfl | 17, _ => rfl | 18, _ => rfl | 19, _ => rfl | 20, _ => rfl | 21, _ => rfl | 22, _ => rfl | 23, _ => rfl | 24, _ => rfl | 25, _ => rfl | 26, _ => rfl | 27, _ => rfl | 28, _ => rfl | 29, _ => rfl | 30, _ => rfl | j + 31, h => absurd h (by show ¬ j + 31 < 31; omega)) ⟨Nat.le_of_ble_eq_true rfl, Nat.le_of_ble_eq_true rfl⟩ rfl (congrArg (s.heap.size + ·) (clX8_len cs s.heap.size)) rfl ?_
    refine l_dup 12 hS dL_law_11 rfl rfl ?_
    refine l_call (y := yX9_init) (cl' := st_c1 cs s.heap.size ++ st_c2 cs s.heap.size) (st_c1 cs s.heap.size) 15 (s.heap.size + 210) hS dL_law_12 mX9_init ⟨rfl, (pm_t5 22 rfl), (pm_t5 21 rfl)⟩ ct_X9 rfl (congrArg (s.heap.size + ·) (clX8_len cs s.heap.size).symm) (congrArg (fun z => s.heap.size + (z + 1)) (clX8_len cs s.heap.size)) rfl ⟨Nat.le_of_ble_eq_true rfl, Nat.le_of_ble_eq_true rfl, Nat.le_of_ble_eq_true rfl, Nat.le_of_ble_eq_true rfl⟩ (Nat.le_of_ble_eq_true rfl) rfl ?_
    refine l_astore_n 16 hS dL_law_15 rfl (by decide) rfl rfl ?_
    refine l_iconst 1 17 hS dL_law_16 (by decide) rfl ?_
    refine l_newa (N := 1) 19 (s.heap.size + 226) hS dL_law_17 (pm_t1 220 rfl) (by decide) (by decide) (by decide) ⟨Nat.le_of_ble_eq_true rfl, Nat.le_of_ble_eq_true rfl⟩ rfl (congrArg (s.heap.size + ·) (st_c12 cs s.heap.size)) ?_
    refine l_astore_n 20 hS dL_law_19 rfl (by decide) rfl rfl ?_
    refine l_iconst 0 21 hS dL_law_20 (by decide) rfl ?_
    refine l_istore 23 hS dL_law_21 (by decide) rfl rfl ?_
    intro H locs la hl hH hLo
    refine lw_loop hC 512 0 227 9948 none none st_m (by omega) (Nat.le_of_ble_eq_true rfl) (Nat.le_of_ble_eq_true rfl) (Nat.zero_le _) st_LI H locs la ⟨hl.1, hl.2.1, rfl, fun k v hk => ?_⟩ trivial (st_H hH.2.1) ⟨by rw [hH.1]; omega, fun q hq _ => hH.2.2 q hq, hLo⟩
    match k, hk with
    | 0, hk => cases hk; exact ⟨lv_at (i := 0) (v := .ref b) hl 4 rfl, Or.inl rfl⟩
    | 1, hk => cases hk; exact ⟨(lv_at (i := 1) (v := .ref s.heap.size) hl 3 rfl).trans (congrArg (fun z => some (Slot.val (Value.ref z))) a1.symm), Or.inr (by decide +kernel)⟩
    | 2, hk => cases hk; exact ⟨(lv_at (i := 2) (v := .ref (s.heap.size + 209)) hl 2 rfl).trans (congrArg (fun z => some (Slot.val (Value.ref z))) a2.symm), Or.inr (by decide +kernel)⟩
    | 3, hk => cases hk; exact ⟨(lv_at (i := 3) (v := .ref (s.heap.size + 226)) hl 1 rfl).trans (congrArg (fun z => some (Slot.val (Value.ref z))) a3.symm), Or.inr (by decide +kernel)⟩
    | 4, hk => cases hk; exact ⟨lv_at (i := 4) (v := .int 0) hl 0 rfl, trivial⟩
    | 5, hk => cases hk
    | 6, hk => cases hk
    | k + 7, hk => cases hk
  exact key s.heap [] la ⟨hl.1, hl.2.1, fun q hq => by rw [List.mem_singleton.mp hq]; exact (hl.2.2.2 0 (pR 99 b) rfl).1⟩ ⟨rfl, fun i x hx => (by cases hx), fun _ _ => rfl⟩ (fun z hz => by cases hz)
