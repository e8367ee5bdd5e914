/-! told anew: fuel, buy, weigh, undo of the class -/
def rvF (v : Int32) : Option Nat := if -1 ≤ v.toInt ∧ v.toInt ≤ 9999 then some (v.toInt + 1).toNat else none
def rvB (v : Int32) : Option Nat := if 0 ≤ v.toInt ∧ v.toInt ≤ 9999 then some v.toInt.toNat else none
def rvW (v : Int32) : Option Nat := if 1 ≤ v.toInt ∧ v.toInt ≤ 99 then some v.toInt.toNat else none
theorem nIt {v : Int32} {n : Nat} (h : v.toInt = n) (hn : n < 100000) : v = nI n := by
  apply Int32.toInt_inj.mp
  rw [nI_toInt (by omega), h]
theorem rvF_some {v : Int32} {x : Nat} (h : rvF v = some x) : v = nI x - 1 ∧ x ≤ 10000 := by
  unfold rvF at h
  split at h
  next hc =>
    cases h
    refine ⟨?_, by omega⟩
    have : v + 1 = nI (v.toInt + 1).toNat := nIt (by
      rw [Int32.toInt_add, show (1 : Int32).toInt = 1 from rfl, Int.bmod_eq_of_le (by omega) (by omega)]
      omega) (by omega)
    rw [← this]
    simp
  · cases h
theorem rvB_some {v : Int32} {x : Nat} (h : rvB v = some x) : v = nI x ∧ x ≤ 9999 := by
  unfold rvB at h
  split at h
  next hc => cases h; exact ⟨nIt (by omega) (by omega), by omega⟩
  · cases h
theorem rvW_some {v : Int32} {x : Nat} (h : rvW v = some x) : v = nI x ∧ 1 ≤ x ∧ x ≤ 99 := by
  unfold rvW at h
  split at h
  next hc => cases h; exact ⟨nIt (by omega) (by omega), by omega, by omega⟩
  · cases h
theorem rvF_n {v : Int32} : rvF v = none ↔ ¬ (-1 ≤ v ∧ v ≤ 9999) := by
  unfold rvF
  rw [Int32.le_iff_toInt_le, Int32.le_iff_toInt_le, show (-1 : Int32).toInt = -1 from rfl, show (9999 : Int32).toInt = 9999 from rfl]
  split <;> simp <;> omega
theorem rvB_n {v : Int32} : rvB v = none ↔ ¬ (0 ≤ v ∧ v ≤ 9999) := by
  unfold rvB
  rw [Int32.le_iff_toInt_le, Int32.le_iff_toInt_le, show (0 : Int32).toInt = 0 from rfl, show (9999 : Int32).toInt = 9999 from rfl]
  split <;> simp <;> omega
theorem rvW_n {v : Int32} : rvW v = none ↔ ¬ (1 ≤ v ∧ v ≤ 99) := by
  unfold rvW
  rw [Int32.le_iff_toInt_le, Int32.le_iff_toInt_le, show (1 : Int32).toInt = 1 from rfl, show (99 : Int32).toInt = 99 from rfl]
  split <;> simp <;> omega
abbrev gO : Type := Option (Nat × Nat)
def oF (K : Nat → Nat) (t v : Int32) : gO := (vix t (K 40)).bind (fun i => (rvF v).map (fun x => (4 + i, x)))
def oB (K : Nat → Nat) (t v : Int32) : gO := (vix t (K 38)).bind (fun i => (rvB v).map (fun x => (i, x)))
def oW (K : Nat → Nat) (t v : Int32) : gO := (vix t (K 39)).bind (fun i => (rvW v).map (fun x => (20 + i, x)))
/-- whether it is a change, what is answered, what is then -/
def isC (K : Nat → Nat) : gO → Bool
  | none => false
  | some (p, v) => !decide (K p = v)
def anC (K : Nat → Nat) : gO → Int32
  | none => -2
  | some (p, v) => if K p = v then -2 else cdI p (K p)
def nxK (K : Nat → Nat) : gO → Nat → Nat
  | none => K
  | some (p, v) => if K p = v then K else up K p v
def nxN (K : Nat → Nat) (n : Nat) (o : gO) : Nat := if isC K o = true then n - ofN n + 1 else n
def nxS (K : Nat → Nat) (n : Nat) (S : Nat → Nat → Nat) (o : gO) : Nat → Nat → Nat := if isC K o = true then shS n S (nxK K o) else S
theorem WF_up {K : Nat → Nat} (hW : WF K) {p v : Nat} (hp : p < 36) (hv : (p < 4 → v ≤ 9999) ∧ (4 ≤ p → p < 20 → v ≤ 10000) ∧ (20 ≤ p → v ≤ 99)) : WF (up K p v) := by
  have hB := up_eqB (K := K) (v := v) hp
  have h16 := hW.2.2.2.2.1
  have hn16 := hW.2.2.2.1
  obtain ⟨a1, a2, a3, a4, a5, a6, a7, a8, a9, a10⟩ := hW
  unfold WF
  rw [hB 36 (by omega), hB 37 (by omega), hB 38 (by omega), hB 39 (by omega), hB 40 (by omega)]
  refine ⟨a1, a2, a3, a4, a5, fun k hk => ⟨?_, ?_⟩, fun q hq => ?_, fun l hl => ⟨?_, ?_⟩, fun t ht => ⟨?_, ?_⟩, fun t l ht hb => ?_⟩
  · have e : up K p v k = if k = p then v else K k := rfl
    rw [e]
    have := (a6 k hk).1
    split <;> omega
  · rw [hB _ (by omega)]; exact (a6 k hk).2
  · rw [hB _ (by omega), hB _ (by omega)]; exact a7 q hq
  · have e : up K p v (20 + l) = if 20 + l = p then v else K (20 + l) := rfl
    rw [e]
    have := (a8 l hl).1
    split <;> omega
  · rw [hB _ (by omega), hB _ (by omega)]; exact (a8 l hl).2
  · have e : up K p v (4 + t) = if 4 + t = p then v else K (4 + t) := rfl
    rw [e]
    have := (a9 t ht).1
    split <;> omega
  · rw [hB (101 + 6 * t) (by omega), hB (102 + 6 * t) (by omega), hB (104 + 6 * t) (by omega), hB (105 + 6 * t) (by omega), hB (106 + 6 * t) (by omega)]; exact (a9 t ht).2
  · rw [hB (106 + 6 * t) (by omega)] at hb
    rw [hB (197 + 16 * t + l) (by omega), hB (453 + 16 * t + l) (by omega)]
    exact a10 t l ht hb
theorem WZ_up {K : Nat → Nat} (hZ : WZ K) {p v : Nat} (hp : p < 36) (hpo : pok K p) : WZ (up K p v) := by
  have hB := up_eqB (K := K) (v := v) hp
  refine ⟨fun k h1 h2 => ?_, fun a b ha hb h => ?_, fun k hk => ?_⟩
  · rw [hB 38 (by omega)] at h1
    have := hpo.1
    have e : up K p v k = if k = p then v else K k := rfl
    rw [e, if_neg (by omega)]
    exact hZ.1 k h1 h2
  · rw [hB 37 (by omega)] at h
    rw [hB _ (by omega)]
    exact hZ.2.1 a b ha hb h
  · rw [hB _ (by omega)]
    exact hZ.2.2 k hk
section TEL
variable {mem mem0 : pm_M} {d n : Nat} {K : Nat → Nat} {S : Nat → Nat → Nat}
theorem CI.wf (h : CI mem d K n S) : WF K ∧ WZ K := by
  have := h.2.2.2.2 n (Nat.le_refl _)
  rwa [h.2.2.2.1] at this
def tcP (m0 : pm_M) (d : Nat) (K : Nat → Nat) (n : Nat) (S : Nat → Nat → Nat) (o : gO) : Option pm_v → pm_M → Prop := fun r mem => r = some (pI (anC K o)) ∧ pm_fr (sCh d) m0 mem ∧ CI mem d (nxK K o) (nxN K n o) (nxS K n S o)
theorem tcP.no (h : CI mem0 d K n S) : tcP mem0 d K n S none (some (pI (-2))) mem0 := ⟨rfl, pm_fr.rf, h⟩
theorem tcP.so {p v : Nat} {r : Option pm_v} (h : chP mem0 d K n S p v r mem) : tcP mem0 d K n S (some (p, v)) r mem := by
  obtain ⟨h1, h2⟩ := h
  by_cases e : K p = v
  · rw [if_pos e] at h2
    refine ⟨by rw [anC, if_pos e]; exact h2.1, h1, ?_⟩
    have hc : isC K (some (p, v)) = false := by simp [isC, e]
    rw [nxK, if_pos e, nxN, nxS, hc]
    exact h2.2
  · rw [if_neg e] at h2
    refine ⟨by rw [anC, if_neg e]; exact h2.1, h1, ?_⟩
    have hc : isC K (some (p, v)) = true := by simp [isC, e]
    rw [nxN, nxS, hc, if_pos rfl, if_pos rfl, nxK, if_neg e]
    exact h2.2
set_option maxRecDepth 100000 in
theorem sp_X8_fuel (h : CI mem0 d K n S) (t v : Int32) : Cl yX8_fuel cX8_fuel 3 (some .int) 6 143 [pR 10008908 0, pI t, pI v] mem0 (tcP mem0 d K n S (oF K t v)) := by
  obtain ⟨hW, hZ⟩ := h.wf
  have h16 := hW.2.2.2.2.1
  have hn16 := hW.2.2.2.1
  have h4 := hW.2.2.1
  obtain ⟨h1, hd, -⟩ := h.1
  refine Cl.of (own := RX8) rfl rfl (Nat.le_of_ble_eq_true rfl) rfl ?_; show PR _ _ _ _ _ _ [some _, some _, some _] _ _ _
  rcases ht : vix t (K 40) with _ | i
  · rw [show oF K t v = none by simp [oF, ht]]
    refine pr_iload_n 1 dX8_fuel_0 rfl rfl rfl ?_
    refine pr_aload_n 2 dX8_fuel_1 rfl rfl rfl ?_
    refine pr_getP d 5 dX8_fuel_2 fX8_52 h1 rfl ?_
    refine pr_getI 8 dX8_fuel_5 fX8_105 rfl ?_
    rw [hd.2.2.2.2.1]
    refine pr_ivsD2 11 dX8_fuel_8 sX8_129 mX8_isIn (sp_isInV _ (by omega)) ⟨Nat.le_of_ble_eq_true rfl, Nat.le_of_ble_eq_true rfl⟩ (Nat.le_of_ble_eq_true rfl) rfl ?_
    refine pr_if_eq 26 14 dX8_fuel_11 rfl rfl (fun c_11 => ?_) (fun c_11 => absurd (vb_n ht) (c_11))
    refine pr_bipush (-2) 28 dX8_fuel_26 (by decide) rfl ?_
    refine pr_ireturn dX8_fuel_28 rfl ?_
    exact tcP.no h
  rcases hv : rvF v with _ | x
  · rw [show oF K t v = none by simp [oF, ht, hv]]
    rw [rvF_n] at hv
    refine pr_iload_n 1 dX8_fuel_0 rfl rfl rfl ?_
    refine pr_aload_n 2 dX8_fuel_1 rfl rfl rfl ?_
    refine pr_getP d 5 dX8_fuel_2 fX8_52 h1 rfl ?_
    refine pr_getI 8 dX8_fuel_5 fX8_105 rfl ?_
    rw [hd.2.2.2.2.1]
    refine pr_ivsD2 11 dX8_fuel_8 sX8_129 mX8_isIn (sp_isInV _ (by omega)) ⟨Nat.le_of_ble_eq_true rfl, Nat.le_of_ble_eq_true rfl⟩ (Nat.le_of_ble_eq_true rfl) rfl ?_
    refine pr_if_eq 26 14 dX8_fuel_11 rfl rfl (fun c_11 => absurd (c_11) (vb_s ht)) (fun c_11 => ?_)
    refine pr_iload_n 15 dX8_fuel_14 rfl rfl rfl ?_
    refine pr_iconst (-1) 16 dX8_fuel_15 (by decide) rfl ?_
    refine pr_icmp_lt 26 19 dX8_fuel_16 rfl rfl (fun c_16 => ?_) (fun c_16 => ?_)
    · refine pr_bipush (-2) 28 dX8_fuel_26 (by decide) rfl ?_
      refine pr_ireturn dX8_fuel_28 rfl ?_
      exact tcP.no h
    · refine pr_iload_n 20 dX8_fuel_19 rfl rfl rfl ?_
      refine pr_sipush (9999) 23 dX8_fuel_20 (by decide) rfl ?_
      refine pr_icmp_le 29 26 dX8_fuel_23 rfl rfl (fun c_23 => ?_) (fun c_23 => ?_)
      · exact absurd ⟨i32_nlt c_16, c_23⟩ hv
      · refine pr_bipush (-2) 28 dX8_fuel_26 (by decide) rfl ?_
        refine pr_ireturn dX8_fuel_28 rfl ?_
        exact tcP.no h
  rw [show oF K t v = some (4 + i, x) by simp [oF, ht, hv]]
  have hr : -1 ≤ v ∧ v ≤ 9999 := Decidable.byContradiction (fun z => by rw [rvF_n.mpr z] at hv; cases hv)
  have hx := rvF_some hv
  obtain ⟨rfl, hi⟩ := vix_some (by omega) ht
  have hcall := (sp_change_fuel h hi (v := x) (by omega) (WF_up hW (by omega) (by omega)) (WZ_up hZ (by omega) ⟨by omega, by omega, by omega⟩)).mono (fun _ _ => tcP.so)
  rw [← hx.1] at hcall
  refine pr_iload_n 1 dX8_fuel_0 rfl rfl rfl ?_
  refine pr_aload_n 2 dX8_fuel_1 rfl rfl rfl ?_
  refine pr_getP d 5 dX8_fuel_2 fX8_52 h1 rfl ?_
  refine pr_getI 8 dX8_fuel_5 fX8_105 rfl ?_
  rw [hd.2.2.2.2.1]
  refine pr_ivsD2 11 dX8_fuel_8 sX8_129 mX8_isIn (sp_isInV _ (by omega)) ⟨Nat.le_of_ble_eq_true rfl, Nat.le_of_ble_eq_true rfl⟩ (Nat.le_of_ble_eq_true rfl) rfl ?_
  refine pr_if_eq 26 14 dX8_fuel_11 rfl rfl (fun c_11 => absurd (c_11) (vb_s ht)) (fun c_11 => ?_)
  refine pr_iload_n 15 dX8_fuel_14 rfl rfl rfl ?_
  refine pr_iconst (-1) 16 dX8_fuel_15 (by decide) rfl ?_
  refine pr_icmp_lt 26 19 dX8_fuel_16 rfl rfl (fun c_16 => absurd (c_16) (Int32.not_lt.mpr hr.1)) (fun c_16 => ?_)
  refine pr_iload_n 20 dX8_fuel_19 rfl rfl rfl ?_
  refine pr_sipush (9999) 23 dX8_fuel_20 (by decide) rfl ?_
  refine pr_icmp_le 29 26 dX8_fuel_23 rfl rfl (fun c_23 => ?_) (fun c_23 => absurd (hr.2) (c_23))
  refine pr_aload_n 30 dX8_fuel_29 rfl rfl rfl ?_
  refine pr_iconst (0) 31 dX8_fuel_30 (by decide) rfl ?_
  refine pr_aload_n 32 dX8_fuel_31 rfl rfl rfl ?_
  refine pr_getP d 35 dX8_fuel_32 fX8_52 h1 rfl ?_
  refine pr_getR0 38 dX8_fuel_35 fX8_201 rfl ?_
  refine pr_iload_n 39 dX8_fuel_38 rfl rfl rfl ?_
  refine pr_iload_n 40 dX8_fuel_39 rfl rfl rfl ?_
  refine pr_invDR4 43 dX8_fuel_40 vX8_267 mX8_change (hcall) ⟨Nat.le_of_ble_eq_true rfl, Nat.le_of_ble_eq_true rfl⟩ (Nat.le_of_ble_eq_true rfl) rfl (fun mem1 q1 => ?_)
  refine pr_ireturn dX8_fuel_43 rfl ?_
  exact ⟨rfl, q1⟩
set_option maxRecDepth 100000 in
theorem sp_X8_buy (h : CI mem0 d K n S) (t v : Int32) : Cl yX8_buy cX8_buy 3 (some .int) 6 143 [pR 10008908 0, pI t, pI v] mem0 (tcP mem0 d K n S (oB K t v)) := by
  obtain ⟨hW, hZ⟩ := h.wf
  have h16 := hW.2.2.2.2.1
  have hn16 := hW.2.2.2.1
  have h4 := hW.2.2.1
  obtain ⟨h1, hd, -⟩ := h.1
  refine Cl.of (own := RX8) rfl rfl (Nat.le_of_ble_eq_true rfl) rfl ?_; show PR _ _ _ _ _ _ [some _, some _, some _] _ _ _
  rcases ht : vix t (K 38) with _ | i
  · rw [show oB K t v = none by simp [oB, ht]]
    refine pr_iload_n 1 dX8_buy_0 rfl rfl rfl ?_
    refine pr_aload_n 2 dX8_buy_1 rfl rfl rfl ?_
    refine pr_getP d 5 dX8_buy_2 fX8_52 h1 rfl ?_
    refine pr_getI 8 dX8_buy_5 fX8_99 rfl ?_
    rw [hd.2.2.1]
    refine pr_ivsD2 11 dX8_buy_8 sX8_129 mX8_isIn (sp_isInV _ (by omega)) ⟨Nat.le_of_ble_eq_true rfl, Nat.le_of_ble_eq_true rfl⟩ (Nat.le_of_ble_eq_true rfl) rfl ?_
    refine pr_if_eq 25 14 dX8_buy_11 rfl rfl (fun c_11 => ?_) (fun c_11 => absurd (vb_n ht) (c_11))
    refine pr_bipush (-2) 27 dX8_buy_25 (by decide) rfl ?_
    refine pr_ireturn dX8_buy_27 rfl ?_
    exact tcP.no h
  rcases hv : rvB v with _ | x
  · rw [show oB K t v = none by simp [oB, ht, hv]]
    rw [rvB_n] at hv
    refine pr_iload_n 1 dX8_buy_0 rfl rfl rfl ?_
    refine pr_aload_n 2 dX8_buy_1 rfl rfl rfl ?_
    refine pr_getP d 5 dX8_buy_2 fX8_52 h1 rfl ?_
    refine pr_getI 8 dX8_buy_5 fX8_99 rfl ?_
    rw [hd.2.2.1]
    refine pr_ivsD2 11 dX8_buy_8 sX8_129 mX8_isIn (sp_isInV _ (by omega)) ⟨Nat.le_of_ble_eq_true rfl, Nat.le_of_ble_eq_true rfl⟩ (Nat.le_of_ble_eq_true rfl) rfl ?_
    refine pr_if_eq 25 14 dX8_buy_11 rfl rfl (fun c_11 => absurd (c_11) (vb_s ht)) (fun c_11 => ?_)
    refine pr_iload_n 15 dX8_buy_14 rfl rfl rfl ?_
    refine pr_if_lt 25 18 dX8_buy_15 rfl rfl (fun c_15 => ?_) (fun c_15 => ?_)
    · refine pr_bipush (-2) 27 dX8_buy_25 (by decide) rfl ?_
      refine pr_ireturn dX8_buy_27 rfl ?_
      exact tcP.no h
    · refine pr_iload_n 19 dX8_buy_18 rfl rfl rfl ?_
      refine pr_sipush (9999) 22 dX8_buy_19 (by decide) rfl ?_
      refine pr_icmp_le 28 25 dX8_buy_22 rfl rfl (fun c_22 => ?_) (fun c_22 => ?_)
      · exact absurd ⟨i32_nlt c_15, c_22⟩ hv
      · refine pr_bipush (-2) 27 dX8_buy_25 (by decide) rfl ?_
        refine pr_ireturn dX8_buy_27 rfl ?_
        exact tcP.no h
  rw [show oB K t v = some (i, x) by simp [oB, ht, hv]]
  have hr : 0 ≤ v ∧ v ≤ 9999 := Decidable.byContradiction (fun z => by rw [rvB_n.mpr z] at hv; cases hv)
  have hx := rvB_some hv
  obtain ⟨rfl, hi⟩ := vix_some (by omega) ht
  have hcall := (sp_change_bought h hi (v := x) (by omega) (WF_up hW (by omega) (by omega)) (WZ_up hZ (by omega) ⟨by omega, by omega, by omega⟩)).mono (fun _ _ => tcP.so)
  rw [← hx.1] at hcall
  refine pr_iload_n 1 dX8_buy_0 rfl rfl rfl ?_
  refine pr_aload_n 2 dX8_buy_1 rfl rfl rfl ?_
  refine pr_getP d 5 dX8_buy_2 fX8_52 h1 rfl ?_
  refine pr_getI 8 dX8_buy_5 fX8_99 rfl ?_
  rw [hd.2.2.1]
  refine pr_ivsD2 11 dX8_buy_8 sX8_129 mX8_isIn (sp_isInV _ (by omega)) ⟨Nat.le_of_ble_eq_true rfl, Nat.le_of_ble_eq_true rfl⟩ (Nat.le_of_ble_eq_true rfl) rfl ?_
  refine pr_if_eq 25 14 dX8_buy_11 rfl rfl (fun c_11 => absurd (c_11) (vb_s ht)) (fun c_11 => ?_)
  refine pr_iload_n 15 dX8_buy_14 rfl rfl rfl ?_
  refine pr_if_lt 25 18 dX8_buy_15 rfl rfl (fun c_15 => absurd (c_15) (Int32.not_lt.mpr hr.1)) (fun c_15 => ?_)
  refine pr_iload_n 19 dX8_buy_18 rfl rfl rfl ?_
  refine pr_sipush (9999) 22 dX8_buy_19 (by decide) rfl ?_
  refine pr_icmp_le 28 25 dX8_buy_22 rfl rfl (fun c_22 => ?_) (fun c_22 => absurd (hr.2) (c_22))
  refine pr_aload_n 29 dX8_buy_28 rfl rfl rfl ?_
  refine pr_iconst (1) 30 dX8_buy_29 (by decide) rfl ?_
  refine pr_aload_n 31 dX8_buy_30 rfl rfl rfl ?_
  refine pr_getP d 34 dX8_buy_31 fX8_52 h1 rfl ?_
  refine pr_getR0 37 dX8_buy_34 fX8_108 rfl ?_
  refine pr_iload_n 38 dX8_buy_37 rfl rfl rfl ?_
  refine pr_iload_n 39 dX8_buy_38 rfl rfl rfl ?_
  refine pr_invDR4 42 dX8_buy_39 vX8_267 mX8_change (hcall) ⟨Nat.le_of_ble_eq_true rfl, Nat.le_of_ble_eq_true rfl⟩ (Nat.le_of_ble_eq_true rfl) rfl (fun mem1 q1 => ?_)
  refine pr_ireturn dX8_buy_42 rfl ?_
  exact ⟨rfl, q1⟩
set_option maxRecDepth 100000 in
theorem sp_X8_weigh (h : CI mem0 d K n S) (t v : Int32) : Cl yX8_weigh cX8_weigh 3 (some .int) 6 143 [pR 10008908 0, pI t, pI v] mem0 (tcP mem0 d K n S (oW K t v)) := by
  obtain ⟨hW, hZ⟩ := h.wf
  have h16 := hW.2.2.2.2.1
  have hn16 := hW.2.2.2.1
  have h4 := hW.2.2.1
  obtain ⟨h1, hd, -⟩ := h.1
  refine Cl.of (own := RX8) rfl rfl (Nat.le_of_ble_eq_true rfl) rfl ?_; show PR _ _ _ _ _ _ [some _, some _, some _] _ _ _
  rcases ht : vix t (K 39) with _ | i
  · rw [show oW K t v = none by simp [oW, ht]]
    refine pr_iload_n 1 dX8_weigh_0 rfl rfl rfl ?_
    refine pr_aload_n 2 dX8_weigh_1 rfl rfl rfl ?_
    refine pr_getP d 5 dX8_weigh_2 fX8_52 h1 rfl ?_
    refine pr_getI 8 dX8_weigh_5 fX8_102 rfl ?_
    rw [hd.2.2.2.1]
    refine pr_ivsD2 11 dX8_weigh_8 sX8_129 mX8_isIn (sp_isInV _ (by omega)) ⟨Nat.le_of_ble_eq_true rfl, Nat.le_of_ble_eq_true rfl⟩ (Nat.le_of_ble_eq_true rfl) rfl ?_
    refine pr_if_eq 25 14 dX8_weigh_11 rfl rfl (fun c_11 => ?_) (fun c_11 => absurd (vb_n ht) (c_11))
    refine pr_bipush (-2) 27 dX8_weigh_25 (by decide) rfl ?_
    refine pr_ireturn dX8_weigh_27 rfl ?_
    exact tcP.no h
  rcases hv : rvW v with _ | x
  · rw [show oW K t v = none by simp [oW, ht, hv]]
    rw [rvW_n] at hv
    refine pr_iload_n 1 dX8_weigh_0 rfl rfl rfl ?_
    refine pr_aload_n 2 dX8_weigh_1 rfl rfl rfl ?_
    refine pr_getP d 5 dX8_weigh_2 fX8_52 h1 rfl ?_
    refine pr_getI 8 dX8_weigh_5 fX8_102 rfl ?_
    rw [hd.2.2.2.1]
    refine pr_ivsD2 11 dX8_weigh_8 sX8_129 mX8_isIn (sp_isInV _ (by omega)) ⟨Nat.le_of_ble_eq_true rfl, Nat.le_of_ble_eq_true rfl⟩ (Nat.le_of_ble_eq_true rfl) rfl ?_
    refine pr_if_eq 25 14 dX8_weigh_11 rfl rfl (fun c_11 => absurd (c_11) (vb_s ht)) (fun c_11 => ?_)
    refine pr_iload_n 15 dX8_weigh_14 rfl rfl rfl ?_
    refine pr_iconst (1) 16 dX8_weigh_15 (by decide) rfl ?_
    refine pr_icmp_lt 25 19 dX8_weigh_16 rfl rfl (fun c_16 => ?_) (fun c_16 => ?_)
    · refine pr_bipush (-2) 27 dX8_weigh_25 (by decide) rfl ?_
      refine pr_ireturn dX8_weigh_27 rfl ?_
      exact tcP.no h
    · refine pr_iload_n 20 dX8_weigh_19 rfl rfl rfl ?_
      refine pr_bipush (99) 22 dX8_weigh_20 (by decide) rfl ?_
      refine pr_icmp_le 28 25 dX8_weigh_22 rfl rfl (fun c_22 => ?_) (fun c_22 => ?_)
      · exact absurd ⟨i32_nlt c_16, c_22⟩ hv
      · refine pr_bipush (-2) 27 dX8_weigh_25 (by decide) rfl ?_
        refine pr_ireturn dX8_weigh_27 rfl ?_
        exact tcP.no h
  rw [show oW K t v = some (20 + i, x) by simp [oW, ht, hv]]
  have hr : 1 ≤ v ∧ v ≤ 99 := Decidable.byContradiction (fun z => by rw [rvW_n.mpr z] at hv; cases hv)
  have hx := rvW_some hv
  obtain ⟨rfl, hi⟩ := vix_some (by omega) ht
  have hcall := (sp_change_weight h hi (v := x) (by omega) (WF_up hW (by omega) (by omega)) (WZ_up hZ (by omega) ⟨by omega, by omega, by omega⟩)).mono (fun _ _ => tcP.so)
  rw [← hx.1] at hcall
  refine pr_iload_n 1 dX8_weigh_0 rfl rfl rfl ?_
  refine pr_aload_n 2 dX8_weigh_1 rfl rfl rfl ?_
  refine pr_getP d 5 dX8_weigh_2 fX8_52 h1 rfl ?_
  refine pr_getI 8 dX8_weigh_5 fX8_102 rfl ?_
  rw [hd.2.2.2.1]
  refine pr_ivsD2 11 dX8_weigh_8 sX8_129 mX8_isIn (sp_isInV _ (by omega)) ⟨Nat.le_of_ble_eq_true rfl, Nat.le_of_ble_eq_true rfl⟩ (Nat.le_of_ble_eq_true rfl) rfl ?_
  refine pr_if_eq 25 14 dX8_weigh_11 rfl rfl (fun c_11 => absurd (c_11) (vb_s ht)) (fun c_11 => ?_)
  refine pr_iload_n 15 dX8_weigh_14 rfl rfl rfl ?_
  refine pr_iconst (1) 16 dX8_weigh_15 (by decide) rfl ?_
  refine pr_icmp_lt 25 19 dX8_weigh_16 rfl rfl (fun c_16 => absurd (c_16) (Int32.not_lt.mpr hr.1)) (fun c_16 => ?_)
  refine pr_iload_n 20 dX8_weigh_19 rfl rfl rfl ?_
  refine pr_bipush (99) 22 dX8_weigh_20 (by decide) rfl ?_
  refine pr_icmp_le 28 25 dX8_weigh_22 rfl rfl (fun c_22 => ?_) (fun c_22 => absurd (hr.2) (c_22))
  refine pr_aload_n 29 dX8_weigh_28 rfl rfl rfl ?_
  refine pr_iconst (2) 30 dX8_weigh_29 (by decide) rfl ?_
  refine pr_aload_n 31 dX8_weigh_30 rfl rfl rfl ?_
  refine pr_getP d 34 dX8_weigh_31 fX8_52 h1 rfl ?_
  refine pr_getR0 37 dX8_weigh_34 fX8_170 rfl ?_
  refine pr_iload_n 38 dX8_weigh_37 rfl rfl rfl ?_
  refine pr_iload_n 39 dX8_weigh_38 rfl rfl rfl ?_
  refine pr_invDR4 42 dX8_weigh_39 vX8_267 mX8_change (hcall) ⟨Nat.le_of_ble_eq_true rfl, Nat.le_of_ble_eq_true rfl⟩ (Nat.le_of_ble_eq_true rfl) rfl (fun mem1 q1 => ?_)
  refine pr_ireturn dX8_weigh_42 rfl ?_
  exact ⟨rfl, q1⟩
/-- coming back -/
def unN (n : Nat) : Nat := n - 1
def unA (n : Nat) : Int32 := if n = 0 then -1 else nI (n - 1)
def ucP (m0 : pm_M) (d n : Nat) (S : Nat → Nat → Nat) : Option pm_v → pm_M → Prop := fun r mem => r = some (pI (unA n)) ∧ pm_fr (sCh d) m0 mem ∧ CI mem d (S (n - 1)) (n - 1) S
theorem S_eqB {n : Nat} {S : Nat → Nat → Nat} (h : histC mem n S) {j : Nat} (hj : j + 1 = n) : eqB (S n) (S j) := by
  obtain ⟨p, v, h1, h2, h3⟩ := h.2 j (by omega)
  rw [hj] at h3
  rw [h3]
  refine up_eqB ?_
  have := h1.2.2
  omega
set_option maxRecDepth 100000 in
theorem sp_rowOf_fuel (h1 : mem.2.2 10008908 0 6 = some d) : Cd yX8_rowOf cX8_rowOf 2 (some (.array .int)) 0 0 [pR 10008908 0, pI (nI 0)] mem (some (pR 20016014 d)) mem := by
  refine Cl.of (own := RX8) rfl rfl (Nat.le_of_ble_eq_true rfl) rfl ?_; show PR _ _ _ _ _ _ [some _, some _] _ _ _
  refine pr_iload_n 1 dX8_rowOf_0 rfl rfl rfl ?_
  refine pr_lookup (off := 27) 28 dX8_rowOf_1 (by decide) (by decide) rfl ?_
  refine pr_aload_n 29 dX8_rowOf_28 rfl rfl rfl ?_
  refine pr_getP d 32 dX8_rowOf_29 fX8_52 h1 rfl ?_
  refine pr_getR0 35 dX8_rowOf_32 fX8_201 rfl ?_
  refine pr_areturn dX8_rowOf_35 rfl ?_
  exact ⟨rfl, rfl⟩
set_option maxRecDepth 100000 in
theorem sp_rowOf_bought (h1 : mem.2.2 10008908 0 6 = some d) : Cd yX8_rowOf cX8_rowOf 2 (some (.array .int)) 0 0 [pR 10008908 0, pI (nI 1)] mem (some (pR 20004009 d)) mem := by
  refine Cl.of (own := RX8) rfl rfl (Nat.le_of_ble_eq_true rfl) rfl ?_; show PR _ _ _ _ _ _ [some _, some _] _ _ _
  refine pr_iload_n 1 dX8_rowOf_0 rfl rfl rfl ?_
  refine pr_lookup (off := 35) 36 dX8_rowOf_1 (by decide) (by decide) rfl ?_
  refine pr_aload_n 37 dX8_rowOf_36 rfl rfl rfl ?_
  refine pr_getP d 40 dX8_rowOf_37 fX8_52 h1 rfl ?_
  refine pr_getR0 43 dX8_rowOf_40 fX8_108 rfl ?_
  refine pr_areturn dX8_rowOf_43 rfl ?_
  exact ⟨rfl, rfl⟩
set_option maxRecDepth 100000 in
theorem sp_rowOf_weight (h1 : mem.2.2 10008908 0 6 = some d) : Cd yX8_rowOf cX8_rowOf 2 (some (.array .int)) 0 0 [pR 10008908 0, pI (nI 2)] mem (some (pR 20016010 d)) mem := by
  refine Cl.of (own := RX8) rfl rfl (Nat.le_of_ble_eq_true rfl) rfl ?_; show PR _ _ _ _ _ _ [some _, some _] _ _ _
  refine pr_iload_n 1 dX8_rowOf_0 rfl rfl rfl ?_
  refine pr_lookup (off := 43) 44 dX8_rowOf_1 (by decide) (by decide) rfl ?_
  refine pr_aload_n 45 dX8_rowOf_44 rfl rfl rfl ?_
  refine pr_getP d 48 dX8_rowOf_45 fX8_52 h1 rfl ?_
  refine pr_getR0 51 dX8_rowOf_48 fX8_170 rfl ?_
  refine pr_areturn dX8_rowOf_51 rfl ?_
  exact ⟨rfl, rfl⟩
set_option maxRecDepth 100000 in
theorem sp_X8_undo (h : CI mem0 d K n S) : Cl yX8_undo cX8_undo 2 (some .int) 5 118 [pR 10008908 0] mem0 (ucP mem0 d n S) := by
  obtain ⟨hW, hZ⟩ := h.wf
  have h16 := hW.2.2.2.2.1
  have hn16 := hW.2.2.2.1
  have h4 := hW.2.2.1
  obtain ⟨hI, hH, hHW⟩ := h
  have hn := hHW.1
  have hI' := hI
  obtain ⟨h1, hd, hr, -⟩ := hI
  refine Cl.of (own := RX8) rfl rfl (Nat.le_of_ble_eq_true rfl) rfl ?_; show PR _ _ _ _ _ _ [some _, none] _ _ _
  rcases n with _ | n
  · refine pr_aload_n 1 dX8_undo_0 rfl rfl rfl ?_
    refine pr_getR0 4 dX8_undo_1 fX8_45 rfl ?_
    refine pr_getI 7 dX8_undo_4 fX8_80 rfl ?_
    rw [hH.1]
    refine pr_if_gt 12 10 dX8_undo_7 rfl rfl (fun c_7 => absurd (c_7) (by decide)) (fun c_7 => ?_)
    refine pr_iconst (-1) 11 dX8_undo_10 (by decide) rfl ?_
    refine pr_ireturn dX8_undo_11 rfl ?_
    refine ⟨rfl, pm_fr.rf, ?_⟩
    rw [show S (0 - 1) = K from hHW.2.1]
    exact ⟨hI', hH, hHW⟩
  have hB := S_eqB hH rfl
  rw [hHW.2.1] at hB
  obtain ⟨p, v, k1, ⟨k2, k3, k4⟩, k5⟩ := hH.2 n (by omega)
  rw [hHW.2.1] at k1 k5
  have hp36 : p < 36 := by have := k1.2.2; omega
  have hS := hHW.2.2 n (by omega)
  have m1 : pm_fr sHi mem0 (pm_uI mem0 10001901 0 3 (nI n)) := pm_fr.rf.uI ⟨by simp, rfl⟩
  have h1' : (pm_uI mem0 10001901 0 3 (nI n)).2.2 10008908 0 6 = some d := h1
  have d1 : deskR (pm_uI mem0 10001901 0 3 (nI n)) d K := hd.fr m1 (by simp [sHi])
  have tail : ∀ mem1 a1, pm_fr (sCh d) mem0 mem1 → deskR mem1 d (S n) → histC mem1 n S → PR cX8_undo RX8 2 5 118 77 [some (pR 10008908 0), a1] [] mem1 (pm_RX cX8_undo (some .int) (ucP mem0 d (n + 1) S)) := by
    intro mem1 a1 f1 d1 H1
    have p2 : mem1.2.2 10008908 0 6 = some d := by rw [(f1 _ _ (by simp [sCh, sHi, sSe])).2.2]; exact h1
    have r2 : routR mem1 (S n) := by
      have r2 : routR mem1 K := hr.fr f1 (by simp [sCh, sHi, sSe])
      refine ⟨fun t ht => ?_, fun t l ht hb => ?_⟩
      · rw [hB 40 (by omega)] at ht
        rw [hB _ (by omega), hB _ (by omega), hB _ (by omega), hB _ (by omega)]
        exact r2.1 t ht
      · rw [hB 40 (by omega)] at ht
        rw [hB _ (by omega)] at hb
        rw [hB _ (by omega), hB _ (by omega)]
        exact r2.2 t l ht hb
    refine pr_aload_n 78 dX8_undo_77 rfl rfl rfl ?_
    refine pr_inv0R0 81 dX8_undo_78 vX8_87 mX8_settle (sp_X8_settle p2 d1 r2 hS.1) ⟨Nat.le_of_ble_eq_true rfl, Nat.le_of_ble_eq_true rfl⟩ (Nat.le_of_ble_eq_true rfl) rfl (fun mem2 s2 => ?_)
    refine pr_aload_n 82 dX8_undo_81 rfl rfl rfl ?_
    refine pr_getR0 85 dX8_undo_82 fX8_45 rfl ?_
    refine pr_getI 88 dX8_undo_85 fX8_80 rfl ?_
    rw [(s2.1 10001901 0 (by simp [sSe])).1, H1.1]
    refine pr_ireturn dX8_undo_88 rfl ?_
    have f3 := f1.tr (s2.1.mono sSe_Ch)
    exact ⟨rfl, f3, hI'.up hB f3 (d1.fr s2.1 (sSe_desk _)) s2.2, H1.fr s2.1 (by simp [sSe]), by omega, rfl, fun j hj => hHW.2.2 j (by omega)⟩
  have hist : ∀ mem1, pm_fr (fun t i => t ∈ [20016014, 20004009, 20016010] ∧ i = d) (pm_uI mem0 10001901 0 3 (nI n)) mem1 → histC mem1 n S := by
    intro mem1 f
    have e0 : histC (pm_uI mem0 10001901 0 3 (nI n)) n S := by
      refine ⟨pm_gIe, fun j hj => ?_⟩
      obtain ⟨q, u, z1, z2, z3⟩ := hH.2 j (by omega)
      refine ⟨q, u, ?_, ?_, z3⟩
      · rw [hHW.2.1] at z1
        unfold pok
        rw [hB 38 (by omega), hB 39 (by omega), hB 40 (by omega)]
        exact z1
      · unfold entR
        rw [pm_gIn (by simp), pm_gIn (by simp), pm_gIn (by simp)]
        exact z2
    exact e0.fr f (by simp)
  by_cases c1 : p < 4
  · have ek : hkd p = 1 := by unfold hkd; rw [if_pos c1]
    have ex : hix p = p := by unfold hix; rw [if_pos c1]
    have ev : cdI p v = nI v := by unfold cdI; rw [if_neg (by omega)]
    have hlim := k1.1 c1
    rw [ek] at k2
    rw [ex] at k3
    rw [ev] at k4
    refine pr_aload_n 1 dX8_undo_0 rfl rfl rfl ?_
    refine pr_getR0 4 dX8_undo_1 fX8_45 rfl ?_
    refine pr_getI 7 dX8_undo_4 fX8_80 rfl ?_
    rw [hH.1]
    refine pr_if_gt 12 10 dX8_undo_7 rfl rfl (fun c_7 => ?_) (fun c_7 => absurd (i32_nle (nI_nle (by omega) (by omega))) (c_7))
    refine pr_aload_n 13 dX8_undo_12 rfl rfl rfl ?_
    refine pr_getR0 16 dX8_undo_13 fX8_45 rfl ?_
    refine pr_dup rfl 17 dX8_undo_16 rfl ?_
    refine pr_getI 20 dX8_undo_17 fX8_80 rfl ?_
    rw [hH.1]
    refine pr_iconst (1) 21 dX8_undo_20 (by decide) rfl ?_
    refine pr_isub 22 dX8_undo_21 rfl ?_
    rw [nI_pred]
    refine pr_putI 25 dX8_undo_22 fX8_80 rfl ?_
    refine pr_aload_n 26 dX8_undo_25 rfl rfl rfl ?_
    refine pr_aload_n 27 dX8_undo_26 rfl rfl rfl ?_
    refine pr_getR0 30 dX8_undo_27 fX8_45 rfl ?_
    refine pr_getR0 33 dX8_undo_30 fX8_271 rfl ?_
    refine pr_aload_n 34 dX8_undo_33 rfl rfl rfl ?_
    refine pr_getR0 37 dX8_undo_34 fX8_45 rfl ?_
    refine pr_getI 40 dX8_undo_37 fX8_80 rfl ?_
    rw [pm_gIe]
    refine pr_iaload n 41 dX8_undo_40 rfl rfl rfl (by omega) rfl ?_
    rw [pm_gIn (by simp), k2]
    refine pr_invD1 44 dX8_undo_41 vX8_274 mX8_rowOf (sp_rowOf_bought h1') ⟨Nat.le_of_ble_eq_true rfl, Nat.le_of_ble_eq_true rfl⟩ (Nat.le_of_ble_eq_true rfl) rfl ?_
    refine pr_astore_n 45 dX8_undo_44 rfl (pm_st_1 rfl rfl) rfl ?_
    refine pr_aload_n 46 dX8_undo_45 rfl rfl rfl ?_
    refine pr_aload_n 47 dX8_undo_46 rfl rfl rfl ?_
    refine pr_getR0 50 dX8_undo_47 fX8_45 rfl ?_
    refine pr_getR0 53 dX8_undo_50 fX8_278 rfl ?_
    refine pr_aload_n 54 dX8_undo_53 rfl rfl rfl ?_
    refine pr_getR0 57 dX8_undo_54 fX8_45 rfl ?_
    refine pr_getI 60 dX8_undo_57 fX8_80 rfl ?_
    rw [pm_gIe]
    refine pr_iaload n 61 dX8_undo_60 rfl rfl rfl (by omega) rfl ?_
    rw [pm_gIn (by simp), k3]
    refine pr_aload_n 62 dX8_undo_61 rfl rfl rfl ?_
    refine pr_getR0 65 dX8_undo_62 fX8_45 rfl ?_
    refine pr_getR0 68 dX8_undo_65 fX8_281 rfl ?_
    refine pr_aload_n 69 dX8_undo_68 rfl rfl rfl ?_
    refine pr_getR0 72 dX8_undo_69 fX8_45 rfl ?_
    refine pr_getI 75 dX8_undo_72 fX8_80 rfl ?_
    rw [pm_gIe]
    refine pr_iaload n 76 dX8_undo_75 rfl rfl rfl (by omega) rfl ?_
    rw [pm_gIn (by simp), k4]
    refine pr_iastore p 77 dX8_undo_76 rfl rfl rfl (by omega) rfl ?_
    have f1 : pm_fr (sCh d) mem0 (pm_uI (pm_uI mem0 10001901 0 3 (nI n)) 20004009 d p (nI v)) := (m1.mono sHi_Ch).uI (Or.inl ⟨by simp, rfl⟩)
    have d2 := d1.bought (v := v) hW (t := p) hlim
    rw [← k5] at d2
    exact tail _ _ f1 d2 (hist _ (pm_fr.rf.uI ⟨by simp, rfl⟩))
  by_cases c2 : p < 20
  · have ek : hkd p = 0 := by unfold hkd; rw [if_neg c1, if_pos c2]
    have ex : hix p = (p - 4) := by unfold hix; rw [if_neg c1, if_pos c2]
    have ev : cdI p v = nI v - 1 := by unfold cdI; rw [if_pos (by omega)]
    have hlim := k1.2.1 (by omega) c2
    rw [ek] at k2
    rw [ex] at k3
    rw [ev] at k4
    refine pr_aload_n 1 dX8_undo_0 rfl rfl rfl ?_
    refine pr_getR0 4 dX8_undo_1 fX8_45 rfl ?_
    refine pr_getI 7 dX8_undo_4 fX8_80 rfl ?_
    rw [hH.1]
    refine pr_if_gt 12 10 dX8_undo_7 rfl rfl (fun c_7 => ?_) (fun c_7 => absurd (i32_nle (nI_nle (by omega) (by omega))) (c_7))
    refine pr_aload_n 13 dX8_undo_12 rfl rfl rfl ?_
    refine pr_getR0 16 dX8_undo_13 fX8_45 rfl ?_
    refine pr_dup rfl 17 dX8_undo_16 rfl ?_
    refine pr_getI 20 dX8_undo_17 fX8_80 rfl ?_
    rw [hH.1]
    refine pr_iconst (1) 21 dX8_undo_20 (by decide) rfl ?_
    refine pr_isub 22 dX8_undo_21 rfl ?_
    rw [nI_pred]
    refine pr_putI 25 dX8_undo_22 fX8_80 rfl ?_
    refine pr_aload_n 26 dX8_undo_25 rfl rfl rfl ?_
    refine pr_aload_n 27 dX8_undo_26 rfl rfl rfl ?_
    refine pr_getR0 30 dX8_undo_27 fX8_45 rfl ?_
    refine pr_getR0 33 dX8_undo_30 fX8_271 rfl ?_
    refine pr_aload_n 34 dX8_undo_33 rfl rfl rfl ?_
    refine pr_getR0 37 dX8_undo_34 fX8_45 rfl ?_
    refine pr_getI 40 dX8_undo_37 fX8_80 rfl ?_
    rw [pm_gIe]
    refine pr_iaload n 41 dX8_undo_40 rfl rfl rfl (by omega) rfl ?_
    rw [pm_gIn (by simp), k2]
    refine pr_invD1 44 dX8_undo_41 vX8_274 mX8_rowOf (sp_rowOf_fuel h1') ⟨Nat.le_of_ble_eq_true rfl, Nat.le_of_ble_eq_true rfl⟩ (Nat.le_of_ble_eq_true rfl) rfl ?_
    refine pr_astore_n 45 dX8_undo_44 rfl (pm_st_1 rfl rfl) rfl ?_
    refine pr_aload_n 46 dX8_undo_45 rfl rfl rfl ?_
    refine pr_aload_n 47 dX8_undo_46 rfl rfl rfl ?_
    refine pr_getR0 50 dX8_undo_47 fX8_45 rfl ?_
    refine pr_getR0 53 dX8_undo_50 fX8_278 rfl ?_
    refine pr_aload_n 54 dX8_undo_53 rfl rfl rfl ?_
    refine pr_getR0 57 dX8_undo_54 fX8_45 rfl ?_
    refine pr_getI 60 dX8_undo_57 fX8_80 rfl ?_
    rw [pm_gIe]
    refine pr_iaload n 61 dX8_undo_60 rfl rfl rfl (by omega) rfl ?_
    rw [pm_gIn (by simp), k3]
    refine pr_aload_n 62 dX8_undo_61 rfl rfl rfl ?_
    refine pr_getR0 65 dX8_undo_62 fX8_45 rfl ?_
    refine pr_getR0 68 dX8_undo_65 fX8_281 rfl ?_
    refine pr_aload_n 69 dX8_undo_68 rfl rfl rfl ?_
    refine pr_getR0 72 dX8_undo_69 fX8_45 rfl ?_
    refine pr_getI 75 dX8_undo_72 fX8_80 rfl ?_
    rw [pm_gIe]
    refine pr_iaload n 76 dX8_undo_75 rfl rfl rfl (by omega) rfl ?_
    rw [pm_gIn (by simp), k4]
    refine pr_iastore (p - 4) 77 dX8_undo_76 rfl rfl rfl (by omega) rfl ?_
    have f1 : pm_fr (sCh d) mem0 (pm_uI (pm_uI mem0 10001901 0 3 (nI n)) 20016014 d (p - 4) (nI v - 1)) := (m1.mono sHi_Ch).uI (Or.inl ⟨by simp, rfl⟩)
    have d2 := d1.fuel (v := v) hW (t := (p - 4)) hlim
    rw [show 4 + (p - 4) = p by omega, ← k5] at d2
    exact tail _ _ f1 d2 (hist _ (pm_fr.rf.uI ⟨by simp, rfl⟩))
  · have ek : hkd p = 2 := by unfold hkd; rw [if_neg c1, if_neg c2]
    have ex : hix p = (p - 20) := by unfold hix; rw [if_neg c1, if_neg c2]
    have ev : cdI p v = nI v := by unfold cdI; rw [if_neg (by omega)]
    have hlim := (k1.2.2 (by omega)).2
    rw [ek] at k2
    rw [ex] at k3
    rw [ev] at k4
    refine pr_aload_n 1 dX8_undo_0 rfl rfl rfl ?_
    refine pr_getR0 4 dX8_undo_1 fX8_45 rfl ?_
    refine pr_getI 7 dX8_undo_4 fX8_80 rfl ?_
    rw [hH.1]
    refine pr_if_gt 12 10 dX8_undo_7 rfl rfl (fun c_7 => ?_) (fun c_7 => absurd (i32_nle (nI_nle (by omega) (by omega))) (c_7))
    refine pr_aload_n 13 dX8_undo_12 rfl rfl rfl ?_
    refine pr_getR0 16 dX8_undo_13 fX8_45 rfl ?_
    refine pr_dup rfl 17 dX8_undo_16 rfl ?_
    refine pr_getI 20 dX8_undo_17 fX8_80 rfl ?_
    rw [hH.1]
    refine pr_iconst (1) 21 dX8_undo_20 (by decide) rfl ?_
    refine pr_isub 22 dX8_undo_21 rfl ?_
    rw [nI_pred]
    refine pr_putI 25 dX8_undo_22 fX8_80 rfl ?_
    refine pr_aload_n 26 dX8_undo_25 rfl rfl rfl ?_
    refine pr_aload_n 27 dX8_undo_26 rfl rfl rfl ?_
    refine pr_getR0 30 dX8_undo_27 fX8_45 rfl ?_
    refine pr_getR0 33 dX8_undo_30 fX8_271 rfl ?_
    refine pr_aload_n 34 dX8_undo_33 rfl rfl rfl ?_
    refine pr_getR0 37 dX8_undo_34 fX8_45 rfl ?_
    refine pr_getI 40 dX8_undo_37 fX8_80 rfl ?_
    rw [pm_gIe]
    refine pr_iaload n 41 dX8_undo_40 rfl rfl rfl (by omega) rfl ?_
    rw [pm_gIn (by simp), k2]
    refine pr_invD1 44 dX8_undo_41 vX8_274 mX8_rowOf (sp_rowOf_weight h1') ⟨Nat.le_of_ble_eq_true rfl, Nat.le_of_ble_eq_true rfl⟩ (Nat.le_of_ble_eq_true rfl) rfl ?_
    refine pr_astore_n 45 dX8_undo_44 rfl (pm_st_1 rfl rfl) rfl ?_
    refine pr_aload_n 46 dX8_undo_45 rfl rfl rfl ?_
    refine pr_aload_n 47 dX8_undo_46 rfl rfl rfl ?_
    refine pr_getR0 50 dX8_undo_47 fX8_45 rfl ?_
    refine pr_getR0 53 dX8_undo_50 fX8_278 rfl ?_
    refine pr_aload_n 54 dX8_undo_53 rfl rfl rfl ?_
    refine pr_getR0 57 dX8_undo_54 fX8_45 rfl ?_
    refine pr_getI 60 dX8_undo_57 fX8_80 rfl ?_
    rw [pm_gIe]
    refine pr_iaload n 61 dX8_undo_60 rfl rfl rfl (by omega) rfl ?_
    rw [pm_gIn (by simp), k3]
    refine pr_aload_n 62 dX8_undo_61 rfl rfl rfl ?_
    refine pr_getR0 65 dX8_undo_62 fX8_45 rfl ?_
    refine pr_getR0 68 dX8_undo_65 fX8_281 rfl ?_
    refine pr_aload_n 69 dX8_undo_68 rfl rfl rfl ?_
    refine pr_getR0 72 dX8_undo_69 fX8_45 rfl ?_
    refine pr_getI 75 dX8_undo_72 fX8_80 rfl ?_
    rw [pm_gIe]
    refine pr_iaload n 76 dX8_undo_75 rfl rfl rfl (by omega) rfl ?_
    rw [pm_gIn (by simp), k4]
    refine pr_iastore (p - 20) 77 dX8_undo_76 rfl rfl rfl (by omega) rfl ?_
    have f1 : pm_fr (sCh d) mem0 (pm_uI (pm_uI mem0 10001901 0 3 (nI n)) 20016010 d (p - 20) (nI v)) := (m1.mono sHi_Ch).uI (Or.inl ⟨by simp, rfl⟩)
    have d2 := d1.weight (v := v) hW (t := (p - 20)) hlim
    rw [show 20 + (p - 20) = p by omega, ← k5] at d2
    exact tail _ _ f1 d2 (hist _ (pm_fr.rf.uI ⟨by simp, rfl⟩))
end TEL
