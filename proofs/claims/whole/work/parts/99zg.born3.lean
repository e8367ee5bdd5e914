/-! constructors: calls, contracts -/
section BRN3
variable {cc : ByteArray} {own : String} {nL : Nat} {p : Program} {l : Launch} {e : Env} {R : Room} {s : State} {m : MethodId} {args : Array Value} {below : List Frame} {meth : Method} {c : Code} {Q : State → Prop} {S0 : State} {a0 : Array Value} {D : va_G} {cs : Nat → ClassId} {a ci : Nat}
variable {pc : Nat} {lv : List (Nat × Value)} {st fs : List Value} {cl : List va_E} {ka sg : Nat}
theorem bH_pD {H : Heap} (hD : pm_D S0 s) (hH : bH D s.heap a ci fs cl H) (hSa : S0.heap.size ≤ a) {U : State} (hU : U.heap = H) (hW : s.WarmedH U.vm) : pm_D S0 U :=
  hD.step hW (by rw [hU, hH.1]; omega) (fun z hz => by rw [hU]; exact hH.2.2.2 z (Nat.lt_of_lt_of_le hz hD.2.1) (fun e => by rw [e] at hz; omega))
theorem b_call {y : MethodName} {bc : ByteArray} {mL' ci' n sl fr' lo' idx x : Nat} {dfl xs : List Value} {fsC : Nat → List Value} {cC : (Nat → ClassId) → Nat → List va_E} (pre : List va_E) (q : Nat) (hC : bC cc own nL p s m meth c S0 a0 D cs a) (hd : decode cc pc = .ok (.invokespecial idx, 3)) (hm : pm_MW y bc mL' none xs.length) (hin : y.name = "<init>" ∧ Cond.instanceMethod y ∈ lw_tbl ∧ Cond.methodLink own idx y ∈ lw_tbl) (hc : Ct y bc mL' ci' dfl n sl fr' lo' xs fsC cC)
    (hcl : cl = pre ++ [.inr (ci', dfl)]) (hxo : x = s.heap.size + pre.length) (hR : fr' + 1 ≤ R.frames ∧ 8 + (mL' + 11) + lo' ≤ R.locals ∧ ka + n ≤ R.cells ∧ sg + sl ≤ R.slots) (hst : (st.map fun v => v.category).sum ≤ 8) (hq : pc + 3 = q)
    (kk : bW nL p l e R s m args below meth c Q S0 D a ci q lv st fs (pre ++ (.inr (ci', fsC (s.heap.size + (pre.length + 1))) :: cC cs (s.heap.size + (pre.length + 1)))) (ka + n) (sg + sl)) : bW nL p l e R s m args below meth c Q S0 D a ci pc lv (xs.reverse ++ .ref x :: st) fs cl ka sg := by
  subst hq
  subst hcl
  subst hxo
  intro H locs la hl hH hL
  obtain ⟨hx, hb, hml, hown, hG, hD, hnm0, hSa, haS⟩ := hC
  have hz : H.size = s.heap.size + (pre.length + 1) := by have := hH.1; rw [List.length_append] at this; exact this
  have hobj : va_at D vwCl (s.heap.size + pre.length, .inr (ci', dfl)) H := hH.2.2.1 pre.length _ (by rw [List.getElem?_append_right (Nat.le_refl _), Nat.sub_self]; rfl)
  have cb : CallB R s args own idx y bc mL' none [Cond.code y bc mL' none] { frames := fr', cells := n, slots := sl, locals := lo' } n sl xs.length := by
    refine ⟨rfl, rfl, hR.1, hR.2.1, ?_, List.mem_cons_self, pcw hG hD _ rfl hm.1, pcw hG hD _ rfl hm.2.1, hm.2.2.1, fun sig h => ?_, pcw hG hD _ rfl hin.2.2⟩
    · intro z hz a' U hW
      rw [List.mem_singleton.mp hz]
      exact word_at (hD.1.trans hW) (good_of_word rfl) (hG.1 _ hm.1)
    · have h2 := hm.2.2.2
      rw [h] at h2
      exact (Option.some.inj h2).symm
  have hrun := va_runI (p := p) (e := e) (below := below) (meth := meth) (locs := locs) (cells := ka) (slots := sg) (As := xs) (b := s.heap.size + pre.length) (H := H) (Ts := []) (rest := st) (g := F0 m pc la (xs.reverse ++ .ref (s.heap.size + pre.length) :: st)) ⟨hx, hb, hml, hown, fun _ h => by cases h⟩ (hc l S0 a0 D cs hG (s.heap.size + pre.length)) ⟨cb, hin.1, pcw hG hD _ rfl hin.2.1⟩
    ⟨fun _ _ _ _ h => h, fun U hU hW => ⟨rfl, bH_pD hD hH hSa hU hW, by have := hD.2.1; omega, by rw [hU, hz]; omega, by rw [hU]; exact hobj⟩⟩ rfl rfl hl.1 rfl (lv_room hst) hd ⟨hR.2.2.1, hR.2.2.2⟩
  intro T hT Xs
  obtain ⟨v, st₀, t, T', L, h0, X', hL', e1, e2, ⟨hv, hB⟩, go⟩ := hrun T hT Xs
  rw [h0, hz] at hB
  have hvv : v = none := by injection hv
  obtain ⟨b1, b2, b3, b4⟩ := hB
  have hH2 : bH D s.heap a ci fs (pre ++ (.inr (ci', fsC (s.heap.size + (pre.length + 1))) :: cC cs (s.heap.size + (pre.length + 1)))) T'.heap := by
    rw [e1]
    rw [hz] at b1
    refine ⟨by rw [b1, List.length_append, List.length_cons]; omega, hH.2.1.kept (b4 a (by rw [hz]; omega) (by omega)), fun i y hy => ?_, fun q hq hqa => (b4 q (by rw [hz]; omega) (by omega)).trans (hH.2.2.2 q hq hqa)⟩
    rcases Nat.lt_or_ge i pre.length with hi | hi
    · rw [List.getElem?_append_left hi] at hy
      refine (hH.2.2.1 i y (by rw [List.getElem?_append_left hi]; exact hy)).kept (b4 _ ?_ ?_)
      · show s.heap.size + i < H.size
        omega
      · show ¬ s.heap.size + i = s.heap.size + pre.length
        omega
    · rw [List.getElem?_append_right hi] at hy
      rcases Nat.eq_zero_or_pos (i - pre.length) with hi0 | hi0
      · rw [hi0] at hy
        cases hy
        rw [show s.heap.size + i = s.heap.size + pre.length by omega]
        exact b2
      · obtain ⟨j, hj⟩ : ∃ j, i - pre.length = j + 1 := ⟨i - pre.length - 1, by omega⟩
        rw [hj, List.getElem?_cons_succ] at hy
        have := b3 j y hy
        rw [hz, show s.heap.size + (pre.length + 1) + j = s.heap.size + i by omega] at this
        exact this
  obtain ⟨t2, a1, c1⟩ := kk T'.heap (locs ++ L) la hl hH2 (fun z hz => by
    rcases List.mem_append.mp hz with h | h
    · exact hL z h
    · exact hL' z h) T' rfl X'
  refine ⟨t2, go t2 ?_, c1⟩
  rw [hvv]
  exact a1
end BRN3
theorem oks99 : ∀ xs : List Nat, pm_oks (xs.map (fun x => pR 99 x))
  | [] => trivial
  | _ :: r => ⟨Or.inl rfl, oks99 r⟩
/-- a constructor's contract out of its walk -/
theorem Ct.of {y : MethodName} {bc : ByteArray} {mL ci : Nat} {dfl : List Value} {n sl fr lo : Nat} {xs : List Nat} {fsC : Nat → List Value} {cC : (Nat → ClassId) → Nat → List va_E} {rpc : Nat} (hy : plainName y.cls = true) (hn : y.name = "<init>") (hlen : xs.length + 1 ≤ mL) (hd : decode bc rpc = .ok (.return_, 1))
    (h : ∀ (p : Program) (l : Launch) (e : Env) (s : State) (m : MethodId) (args : Array Value) (below : List Frame) (meth : Method) (c : Code) (Q : State → Prop) (S0 : State) (a0 : Array Value) (D : va_G) (cs : Nat → ClassId) (a : Nat), bC bc y.cls mL p s m meth c S0 a0 D cs a →
      bW mL p l e { frames := fr, cells := n, slots := sl, locals := lo } s m args below meth c Q S0 D a ci rpc ((0, .ref a) :: (List.range xs.length).map (fun i => (i + 1, .ref (xs.getD i 0)))) [] (fsC s.heap.size) (cC cs s.heap.size) n sl →
      bW mL p l e { frames := fr, cells := n, slots := sl, locals := lo } s m args below meth c Q S0 D a ci 0 ((0, .ref a) :: (List.range xs.length).map (fun i => (i + 1, .ref (xs.getD i 0)))) [] dfl [] 0 0) : Ct y bc mL ci dfl n sl fr lo (xs.map Value.ref) fsC cC := by
  intro l S0 a0 D cs hG a
  refine Met.ofW (cc := bc) (maxL := mL) (ret := none) hy rfl ?_
  intro p e s m args below meth c s₁ B hml hv
  obtain ⟨rfl, hD, hSa, haS, hob⟩ := hv
  have hx := B.exec
  have hb := B.bytes
  have hr := B.returns
  have hown : s.vm.findClass y.cls = some m.cls := findClass_of_methodNamed B.named
  have hlocks := B.notSynchronized
  have hnm : meth.name = "<init>" := by rw [(name_of_methodNamed B.named B.method).1]; exact hn
  obtain ⟨la, hl, he⟩ := pm_start (ad := fun _ i => i) (as := pR 99 a :: xs.map (fun x => pR 99 x)) (mL := mL) ⟨Or.inl rfl, oks99 xs⟩ (by simp [pm_cat]) (by simp; omega)
  have ee : (Value.ref a :: xs.map Value.ref) = (pR 99 a :: xs.map (fun x => pR 99 x)).map (pm_mv (fun _ i => i)) := by simp [pm_mv]
  rw [ee, he]
  have hlv : lv_has la mL ((0, .ref a) :: (List.range xs.length).map (fun i => (i + 1, .ref (xs.getD i 0)))) := by
    refine ⟨hl.1, hl.2.1, fun q hq => ?_⟩
    rcases List.mem_cons.mp hq with rfl | hq
    · exact (hl.2.2.2 0 (pR 99 a) rfl).1
    · obtain ⟨i, hi, rfl⟩ := List.mem_map.mp hq
      have hi := List.mem_range.mp hi
      refine (hl.2.2.2 (i + 1) (pR 99 (xs.getD i 0)) ?_).1
      rw [List.map_cons, List.cons_append, List.getElem?_cons_succ, List.getElem?_append_left (by simp; exact hi)]
      simp [List.getElem?_eq_getElem hi]
  refine h p l e s m _ below meth c _ S0 a0 D cs a ⟨hx, hb, hml, hown, hG, hD, hnm, hSa, haS⟩ ?_ s.heap [] la hlv ⟨rfl, hob, fun i x hx => (by cases hx), fun _ _ _ => rfl⟩ (fun z hz => by cases hz)
  intro H locs la' hl' hH' hL'
  exact W.vret hx hb hr (fun t ht _ => ⟨rfl, by rw [ht]; exact hH'⟩) hL' hd
