/-! calls of constructors of nest mates -/
section BRN4
variable {cc : ByteArray} {own : String} {nL : Nat} {p : Program} {l : Launch} {e : Env} {R : Room} {s : State} {m : MethodId} {args : Array Value} {below : List Frame} {meth : Method} {c : Code} {Q : State → Prop} {S0 : State} {a0 : Array Value} {D : va_G} {cs : Nat → ClassId} {a ci : Nat}
variable {pc : Nat} {lv : List (Nat × Value)} {st fs : List Value} {cl : List va_E} {ka sg : Nat}
theorem b_callN {host : String} {y : MethodName} {bc : ByteArray} {mL' ci' n sl fr' lo' idx x : Nat} {dfl xs : List Value} {fsC : Nat → List Value} {cC : (Nat → ClassId) → Nat → List va_E} (pre : List va_E) (q : Nat) (hC : bC cc own nL p s m meth c S0 a0 D cs a) (hd : decode cc pc = .ok (.invokespecial idx, 3)) (hm : pm_MW y bc mL' none xs.length) (hin : y.name = "<init>" ∧ Cond.instanceMethod y ∈ lw_tbl ∧ Cond.methodLinkNest own idx y host ∈ lw_tbl) (hc : Ct y bc mL' ci' dfl n sl fr' lo' xs fsC cC)
    (hcl : cl = pre ++ [.inr (ci', dfl)]) (hxo : x = s.heap.size + pre.length) (hR : fr' + 1 ≤ R.frames ∧ 8 + (mL' + 11) + lo' ≤ R.locals ∧ ka + n ≤ R.cells ∧ sg + sl ≤ R.slots) (hst : (st.map fun v => v.category).sum ≤ 8) (hq : pc + 3 = q)
    (kk : bW nL p l e R s m args below meth c Q S0 D a ci q lv st fs (pre ++ (.inr (ci', fsC (s.heap.size + (pre.length + 1))) :: cC cs (s.heap.size + (pre.length + 1)))) (ka + n) (sg + sl)) : bW nL p l e R s m args below meth c Q S0 D a ci pc lv (xs.reverse ++ .ref x :: st) fs cl ka sg := by
  subst hq
  subst hcl
  subst hxo
  intro H locs la hl hH hL
  obtain ⟨hx, hb, hml, hown, hG, hD, hnm0, hSa, haS⟩ := hC
  have hz : H.size = s.heap.size + (pre.length + 1) := by have := hH.1; rw [List.length_append] at this; exact this
  have hobj : va_at D vwCl (s.heap.size + pre.length, .inr (ci', dfl)) H := hH.2.2.1 pre.length _ (by rw [List.getElem?_append_right (Nat.le_refl _), Nat.sub_self]; rfl)
  have cb : va_CN R s args own idx y host bc mL' none [Cond.code y bc mL' none] { frames := fr', cells := n, slots := sl, locals := lo' } n sl xs.length := by
    refine ⟨⟨rfl, rfl, hR.1, hR.2.1, ?_, List.mem_cons_self⟩, pcw hG hD _ rfl hm.1, pcw hG hD _ rfl hm.2.1, hm.2.2.1, fun sig h => ?_, va_Nw.use rfl (va_Nw.warmM hD.1 (va_Nw.of rfl (hG.1 _ hin.2.2)))⟩
    · intro z hz a' U hW
      rw [List.mem_singleton.mp hz]
      exact word_at (hD.1.trans hW) (good_of_word rfl) (hG.1 _ hm.1)
    · have h2 := hm.2.2.2
      rw [h] at h2
      exact (Option.some.inj h2).symm
  have hrun := va_runIN (p := p) (e := e) (below := below) (meth := meth) (locs := locs) (cells := ka) (slots := sg) (As := xs) (b := s.heap.size + pre.length) (H := H) (Ts := []) (rest := st) (g := F0 m pc la (xs.reverse ++ .ref (s.heap.size + pre.length) :: st)) ⟨hx, hb, hml, hown, fun _ h => by cases h⟩ (hc l S0 a0 D cs hG (s.heap.size + pre.length)) ⟨cb, hin.1, pcw hG hD _ rfl hin.2.1⟩
    ⟨fun _ _ _ _ h => h, fun U hU hW => ⟨rfl, bH_pD hD hH hSa hU hW, by have := hD.2.1; omega, by rw [hU, hz]; omega, by rw [hU]; exact hobj⟩⟩ rfl rfl hl.1 rfl (lv_room hst) hd ⟨hR.2.2.1, hR.2.2.2⟩
  intro T hT Xs
  obtain ⟨v, st₀, t, T', L, h0, X', hL', e1, e2, ⟨hv, hB⟩, go⟩ := hrun T hT Xs
  rw [h0, hz] at hB
  have hvv : v = none := by injection hv
  obtain ⟨b1, b2, b3, b4⟩ := hB
  have hH2 : bH D s.heap a ci fs (pre ++ (.inr (ci', fsC (s.heap.size + (pre.length + 1))) :: cC cs (s.heap.size + (pre.length + 1)))) T'.heap := by
    rw [e1]
    rw [hz] at b1
    refine ⟨by rw [b1, List.length_append, List.length_cons]; omega, hH.2.1.kept (b4 a (by rw [hz]; omega) (by omega)), fun i y hy => ?_, fun q hq hqa => (b4 q (by rw [hz]; omega) (by omega)).trans (hH.2.2.2 q hq hqa)⟩
    rcases Nat.lt_or_ge i pre.length with hi | hi
    · rw [List.getElem?_append_left hi] at hy
      refine (hH.2.2.1 i y (by rw [List.getElem?_append_left hi]; exact hy)).kept (b4 _ ?_ ?_)
      · show s.heap.size + i < H.size
        omega
      · show ¬ s.heap.size + i = s.heap.size + pre.length
        omega
    · rw [List.getElem?_append_right hi] at hy
      rcases Nat.eq_zero_or_pos (i - pre.length) with hi0 | hi0
      · rw [hi0] at hy
        cases hy
        rw [show s.heap.size + i = s.heap.size + pre.length by omega]
        exact b2
      · obtain ⟨j, hj⟩ : ∃ j, i - pre.length = j + 1 := ⟨i - pre.length - 1, by omega⟩
        rw [hj, List.getElem?_cons_succ] at hy
        have := b3 j y hy
        rw [hz, show s.heap.size + (pre.length + 1) + j = s.heap.size + i by omega] at this
        exact this
  obtain ⟨t2, a1, c1⟩ := kk T'.heap (locs ++ L) la hl hH2 (fun z hz => by
    rcases List.mem_append.mp hz with h | h
    · exact hL z h
    · exact hL' z h) T' rfl X'
  refine ⟨t2, go t2 ?_, c1⟩
  rw [hvv]
  exact a1
end BRN4
