/-! arrays, calls, returns -/
section PRA
variable {cc : ByteArray} {own : String} {nL fr lo pc : Nat} {ls : List (Option pm_v)} {st : List pm_v} {mem : pm_M} {X : Nat → List (Option pm_v) → List pm_v → pm_M → Prop}
theorem pm_nI_in {j n : Nat} (hj : j < n) (hn : n < 2 ^ 31) : vp_in (nI j) n := vp_in_nI hj hn
theorem pm_n_small {t n : Nat} (h : t / 1000 % 10000 = n) : n < 2 ^ 31 := by omega
theorem pm_arrP {ad : pm_A} {D : va_G} {cs : Nat → ClassId} {H : Heap} {t i : Nat} {z : va_E} (hi : i < pm_tn t) (hH : pm_H ad D cs mem H) (hz : pm_ce ad cs mem t i = z) : va_P D vwCl [(ad t i, z)] H := by
  intro n x hx
  have hn : n = 0 := by
    have := (List.getElem?_eq_some_iff.mp hx).1
    simpa using this
  subst hn
  cases hx
  rw [← hz]
  exact hH.1 t i hi
theorem pr_iaload {t i n : Nat} {x : Int32} (j : Nat) (q : Nat) (hd : decode cc pc = .ok (.iaload, 1)) (h1 : t / 10000000 = 2) (hn : t / 1000 % 10000 = n) (hx : x = nI j) (hj : j < n) (hq : pc + 1 = q) (kk : PR cc own nL fr lo q ls (pI (mem.1 t i j) :: st) mem X) : PR cc own nL fr lo pc ls (pI x :: pR t i :: st) mem X := by
  subst hq; subst hx
  refine PR.step1 (fun {p l e R s m args below meth c cells slots Q S0 a0 ad D cs} H locs la hC hl hs hH hS kk => ?_) kk
  have hi := pm_ok_lt h1 (by decide) hs.2.1
  have hP := pm_arrP hi hH (z := .inl (cs 0, n, .inl (mem.1 t i))) (by simp [pm_ce, h1, hn])
  refine va_iald hC.1 hC.2.1 (va_K.moved hC.2.2.2.2.2.1.1.alike hC.2.2.2.2.1.2.2.1) hP 0 0 rfl rfl (vp_in_nI hj (pm_n_small hn)) hd ?_
  rw [nI_clamp (by have := pm_n_small hn; omega)]
  exact kk la hl ⟨trivial, hs.2.2⟩
theorem pr_baload {t i n : Nat} {x : Int32} (j : Nat) (q : Nat) (hd : decode cc pc = .ok (.baload, 1)) (h1 : t / 10000000 = 3) (hn : t / 1000 % 10000 = n) (hx : x = nI j) (hj : j < n) (hq : pc + 1 = q) (kk : PR cc own nL fr lo q ls (pI (mem.1 t i j) :: st) mem X) : PR cc own nL fr lo pc ls (pI x :: pR t i :: st) mem X := by
  subst hq; subst hx
  refine PR.step1 (fun {p l e R s m args below meth c cells slots Q S0 a0 ad D cs} H locs la hC hl hs hH hS kk => ?_) kk
  have hi := pm_ok_lt h1 (by decide) hs.2.1
  have hP := pm_arrP hi hH (z := .inl (cs 1, n, .inl (mem.1 t i))) (by simp [pm_ce, h1, hn])
  refine va_bald hC.1 hC.2.1 (va_K.moved hC.2.2.2.2.2.1.1.alike hC.2.2.2.2.1.2.2.1) hP 0 1 rfl rfl (vp_in_nI hj (pm_n_small hn)) hd ?_
  rw [nI_clamp (by have := pm_n_small hn; omega)]
  exact kk la hl ⟨trivial, hs.2.2⟩
theorem pr_laload {t i n : Nat} {x : Int32} (j : Nat) (q : Nat) (hd : decode cc pc = .ok (.laload, 1)) (h1 : t / 10000000 = 4) (hn : t / 1000 % 10000 = n) (hx : x = nI j) (hj : j < n) (hq : pc + 1 = q) (kk : PR cc own nL fr lo q ls (pJ (mem.2.1 t i j) :: st) mem X) : PR cc own nL fr lo pc ls (pI x :: pR t i :: st) mem X := by
  subst hq; subst hx
  refine PR.step1 (fun {p l e R s m args below meth c cells slots Q S0 a0 ad D cs} H locs la hC hl hs hH hS kk => ?_) kk
  have hi := pm_ok_lt h1 (by decide) hs.2.1
  have hP := pm_arrP hi hH (z := .inl (cs 2, n, .inr (.inl (mem.2.1 t i)))) (by simp [pm_ce, h1, hn])
  refine va_lald hC.1 hC.2.1 (va_K.moved hC.2.2.2.2.2.1.1.alike hC.2.2.2.2.1.2.2.1) hP 0 2 rfl rfl (vp_in_nI hj (pm_n_small hn)) hd ?_
  rw [nI_clamp (by have := pm_n_small hn; omega)]
  exact kk la hl ⟨trivial, hs.2.2⟩
theorem pr_iastore {t i n : Nat} {x v : Int32} (j : Nat) (q : Nat) (hd : decode cc pc = .ok (.iastore, 1)) (h1 : t / 10000000 = 2) (hn : t / 1000 % 10000 = n) (hx : x = nI j) (hj : j < n) (hq : pc + 1 = q) (kk : PR cc own nL fr lo q ls st (pm_uI mem t i j v) X) : PR cc own nL fr lo pc ls (pI v :: pI x :: pR t i :: st) mem X := by
  subst hq; subst hx
  refine PR.stepM (pm_but_I mem t i j v) (fun {p l e R s m args below meth c cells slots Q S0 a0 ad D cs} H locs la hC hs hH kk => ?_) kk
  have hi := pm_ok_lt h1 (by decide) hs.2.2.1
  have hP := pm_arrP hi hH (z := .inl (cs 0, n, .inl (mem.1 t i))) (by simp [pm_ce, h1, hn])
  have hK : va_K D vwCl [(cs 0, .int), (cs 1, .byte), (cs 2, .long), (cs 3, .array .int)] s := va_K.moved hC.2.2.2.2.2.1.1.alike hC.2.2.2.2.1.2.2.1
  have hin : vp_in (nI j) n := vp_in_nI hj (pm_n_small hn)
  have hc : (nI j).toNatClampNeg = j := nI_clamp (by have := pm_n_small hn; omega)
  refine W.iast hC.1 hC.2.1 (hP 0 _ rfl) ((hK.2 0 _ rfl).1 n (fun j => .int (mem.1 t i j))) (fun q => by cases q) (by show ¬ (nI j < 0 ∨ (arrV _ _ _).slots.size ≤ _); rw [arrV_size]; exact hin) rfl rfl hd fun H1 e1 z oq => ?_
  refine kk H1 _ hs.2.2.2 hi hH.2 ?_ z oq
  have hce : pm_ce ad cs (pm_uI mem t i j v) t i = .inl (cs 0, n, .inl (upd (mem.1 t i) j v)) := by
    have : (pm_uI mem t i j v).1 t i = upd (mem.1 t i) j v := by
      funext k'
      simp [pm_uI, upd]
    simp [pm_ce, h1, hn, this]
  rw [hce]
  show H1[ad t i]? = some (vp_cell _ _)
  rw [e1, vp_cell_i, vp_cell_i, arrV_store, hc]
  congr 2
  funext q
  by_cases hq : q = j
  · subst hq
    simp [updV, upd]
  · simp [updV, upd, hq]
theorem pr_bastore {t i n : Nat} {x v : Int32} (j : Nat) (q : Nat) (hd : decode cc pc = .ok (.bastore, 1)) (h1 : t / 10000000 = 3) (hn : t / 1000 % 10000 = n) (hx : x = nI j) (hj : j < n) (hq : pc + 1 = q) (kk : PR cc own nL fr lo q ls st (pm_uI mem t i j (vp_nar .byte v)) X) : PR cc own nL fr lo pc ls (pI v :: pI x :: pR t i :: st) mem X := by
  subst hq; subst hx
  refine PR.stepM (pm_but_I mem t i j (vp_nar .byte v)) (fun {p l e R s m args below meth c cells slots Q S0 a0 ad D cs} H locs la hC hs hH kk => ?_) kk
  have hi := pm_ok_lt h1 (by decide) hs.2.2.1
  have hP := pm_arrP hi hH (z := .inl (cs 1, n, .inl (mem.1 t i))) (by simp [pm_ce, h1, hn])
  have hK : va_K D vwCl [(cs 0, .int), (cs 1, .byte), (cs 2, .long), (cs 3, .array .int)] s := va_K.moved hC.2.2.2.2.2.1.1.alike hC.2.2.2.2.1.2.2.1
  have hin : vp_in (nI j) n := vp_in_nI hj (pm_n_small hn)
  have hc : (nI j).toNatClampNeg = j := nI_clamp (by have := pm_n_small hn; omega)
  refine W.bast hC.1 hC.2.1 (hP 0 _ rfl) ((hK.2 1 _ rfl).1 n (fun j => .int (mem.1 t i j))) (fun q => by cases q) (by show ¬ (nI j < 0 ∨ (arrV _ _ _).slots.size ≤ _); rw [arrV_size]; exact hin) rfl rfl hd fun H1 e1 z oq => ?_
  refine kk H1 _ hs.2.2.2 hi hH.2 ?_ z oq
  have hce : pm_ce ad cs (pm_uI mem t i j (vp_nar .byte v)) t i = .inl (cs 1, n, .inl (upd (mem.1 t i) j (vp_nar .byte v))) := by
    have : (pm_uI mem t i j (vp_nar .byte v)).1 t i = upd (mem.1 t i) j (vp_nar .byte v) := by
      funext k'
      simp [pm_uI, upd]
    simp [pm_ce, h1, hn, this]
  rw [hce]
  show H1[ad t i]? = some (vp_cell _ _)
  rw [e1, vp_cell_i, vp_cell_i, arrV_store, hc]
  congr 2
  funext q
  by_cases hq : q = j
  · subst hq
    simp [updV, upd, vp_nar]
    try rfl
  · simp [updV, upd, hq]
theorem pr_lastore {t i n : Nat} {x : Int32} {v : Int64} (j : Nat) (q : Nat) (hd : decode cc pc = .ok (.lastore, 1)) (h1 : t / 10000000 = 4) (hn : t / 1000 % 10000 = n) (hx : x = nI j) (hj : j < n) (hq : pc + 1 = q) (kk : PR cc own nL fr lo q ls st (pm_uJ mem t i j v) X) : PR cc own nL fr lo pc ls (pJ v :: pI x :: pR t i :: st) mem X := by
  subst hq; subst hx
  refine PR.stepM (pm_but_J mem t i j v) (fun {p l e R s m args below meth c cells slots Q S0 a0 ad D cs} H locs la hC hs hH kk => ?_) kk
  have hi := pm_ok_lt h1 (by decide) hs.2.2.1
  have hP := pm_arrP hi hH (z := .inl (cs 2, n, .inr (.inl (mem.2.1 t i)))) (by simp [pm_ce, h1, hn])
  have hK : va_K D vwCl [(cs 0, .int), (cs 1, .byte), (cs 2, .long), (cs 3, .array .int)] s := va_K.moved hC.2.2.2.2.2.1.1.alike hC.2.2.2.2.1.2.2.1
  have hin : vp_in (nI j) n := vp_in_nI hj (pm_n_small hn)
  have hc : (nI j).toNatClampNeg = j := nI_clamp (by have := pm_n_small hn; omega)
  refine W.last hC.1 hC.2.1 (hP 0 _ rfl) ((hK.2 2 _ rfl).1 n (fun j => .long (mem.2.1 t i j))) (fun q => by cases q) (by show ¬ (nI j < 0 ∨ (arrV _ _ _).slots.size ≤ _); rw [arrV_size]; exact hin) rfl rfl hd fun H1 e1 z oq => ?_
  refine kk H1 _ hs.2.2.2 hi hH.2 ?_ z oq
  have hce : pm_ce ad cs (pm_uJ mem t i j v) t i = .inl (cs 2, n, .inr (.inl (vp_updL (mem.2.1 t i) j v))) := by
    have : (pm_uJ mem t i j v).2.1 t i = vp_updL (mem.2.1 t i) j v := by
      funext k'
      simp [pm_uJ, vp_updL]
    simp [pm_ce, h1, hn, this]
  rw [hce]
  show H1[ad t i]? = some (vp_cell _ _)
  rw [e1, vp_cell_l, vp_cell_l, arrV_store, hc]
  congr 2
  funext q
  by_cases hq : q = j
  · subst hq
    simp [updV, vp_updL]
  · simp [updV, vp_updL, hq]
theorem pr_alen {t i n : Nat} (q : Nat) (hd : decode cc pc = .ok (.arraylength, 1)) (h1 : t / 10000000 = 2) (hn : t / 1000 % 10000 = n) (hq : pc + 1 = q) (kk : PR cc own nL fr lo q ls (pI (nI n) :: st) mem X) : PR cc own nL fr lo pc ls (pR t i :: st) mem X := by
  subst hq
  refine PR.step1 (fun {p l e R s m args below meth c cells slots Q S0 a0 ad D cs} H locs la hC hl hs hH hS kk => ?_) kk
  have hi := pm_ok_lt h1 (by decide) hs.1
  have hP := pm_arrP hi hH (z := .inl (cs 0, n, .inl (mem.1 t i))) (by simp [pm_ce, h1, hn])
  have hK : va_K D vwCl [(cs 0, .int), (cs 1, .byte), (cs 2, .long), (cs 3, .array .int)] s := va_K.moved hC.2.2.2.2.2.1.1.alike hC.2.2.2.2.1.2.2.1
  exact W.alen hC.1 hC.2.1 (hP 0 _ rfl) ((hK.2 0 _ rfl).1 n (fun j => .int (mem.1 t i j))) (by show (arrV _ _ _).slots.size.toInt32 = _; rw [arrV_size]; rfl) rfl rfl hd (kk la hl ⟨trivial, hs.2⟩)
theorem pr_alenB {t i n : Nat} (q : Nat) (hd : decode cc pc = .ok (.arraylength, 1)) (h1 : t / 10000000 = 3) (hn : t / 1000 % 10000 = n) (hq : pc + 1 = q) (kk : PR cc own nL fr lo q ls (pI (nI n) :: st) mem X) : PR cc own nL fr lo pc ls (pR t i :: st) mem X := by
  subst hq
  refine PR.step1 (fun {p l e R s m args below meth c cells slots Q S0 a0 ad D cs} H locs la hC hl hs hH hS kk => ?_) kk
  have hi := pm_ok_lt h1 (by decide) hs.1
  have hP := pm_arrP hi hH (z := .inl (cs 1, n, .inl (mem.1 t i))) (by simp [pm_ce, h1, hn])
  have hK : va_K D vwCl [(cs 0, .int), (cs 1, .byte), (cs 2, .long), (cs 3, .array .int)] s := va_K.moved hC.2.2.2.2.2.1.1.alike hC.2.2.2.2.1.2.2.1
  exact W.alen hC.1 hC.2.1 (hP 0 _ rfl) ((hK.2 1 _ rfl).1 n (fun j => .int (mem.1 t i j))) (by show (arrV _ _ _).slots.size.toInt32 = _; rw [arrV_size]; rfl) rfl rfl hd (kk la hl ⟨trivial, hs.2⟩)
end PRA
